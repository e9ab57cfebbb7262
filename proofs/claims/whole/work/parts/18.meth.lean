theorem dX10_all_0 : am_at cX10_all 0 (.iconst 1) 1 1 := by decide +kernel
theorem dX10_all_1 : am_at cX10_all 1 (.aload_n 0) 1 2 := by decide +kernel
theorem dX10_all_2 : am_at cX10_all 2 (.getfield 9) 3 5 := by decide +kernel
theorem dX10_all_5 : am_at cX10_all 5 (.iconst 1) 1 6 := by decide +kernel
theorem dX10_all_6 : am_at cX10_all 6 (.iaload) 1 7 := by decide +kernel
theorem dX10_all_7 : am_at cX10_all 7 (.ishl) 1 8 := by decide +kernel
theorem dX10_all_8 : am_at cX10_all 8 (.iconst 1) 1 9 := by decide +kernel
theorem dX10_all_9 : am_at cX10_all 9 (.isub) 1 10 := by decide +kernel
theorem dX10_all_10 : am_at cX10_all 10 (.ireturn) 1 11 := by decide +kernel
def fxX10_all (l0 : Option Nat) (h : am_H) : Option (Int32 × am_H) := am_gd (am_ob h l0 10) (am_gd (am_ix h (am_gr h l0 0) 0 (1 : Int32)) (some ((((1 : Int32) <<< ((am_gi h (am_gr h l0 0) (1 : Int32).toNatClampNeg) &&& 31)) - (1 : Int32)), h)))
set_option maxRecDepth 100000 in
theorem sxX10_all {xs : List Int32} (l0 : Option Nat) (h : am_H) : am_Sm xs am_ci mX10_all 0 0 0 0 [some (am_R l0)] [] h (fxX10_all l0 h) := by
  unfold fxX10_all
  refine am_iconst (v := 1) dX10_all_0 (by decide) ?_
  refine am_aload_n dX10_all_1 rfl ?_
  refine am_getR dX10_all_2 fk_RX10_9 rfl ?_
  refine am_iconst (v := 1) dX10_all_5 (by decide) ?_
  refine am_iald dX10_all_6 ?_
  refine am_ishl dX10_all_7 ?_
  refine am_iconst (v := 1) dX10_all_8 (by decide) ?_
  refine am_isub dX10_all_9 ?_
  exact am_iret dX10_all_10 rfl rfl
theorem txX10_all {xs : List Int32} (l0 : Option Nat) (h : am_H) (a : Int32) (h2 : am_H) (e : fxX10_all l0 h = some (a, h2)) : am_Ct xs mX10_all 0 0 0 [am_R l0] h (fun v h3 => v = am_ci a ∧ h3 = h2) := am_meth okX10_all (Nat.le_of_ble_eq_true rfl) rfl (sxX10_all l0 h) e
theorem dX10_best_0 : am_at cX10_best 0 (.iload_n 1) 1 1 := by decide +kernel
theorem dX10_best_1 : am_at cX10_best 1 (.iconst 0) 1 2 := by decide +kernel
theorem dX10_best_2 : am_at cX10_best 2 (.aload_n 0) 1 3 := by decide +kernel
theorem dX10_best_3 : am_at cX10_best 3 (.invokevirtual 152) 3 6 := by decide +kernel
theorem dX10_best_6 : am_at cX10_best 6 (.invokestatic 85) 3 9 := by decide +kernel
theorem dX10_best_9 : am_at cX10_best 9 (.ifCond .ne 6) 3 12 := by decide +kernel
theorem dX10_best_12 : am_at cX10_best 12 (.ldc 93) 2 14 := by decide +kernel
theorem dX10_best_14 : am_at cX10_best 14 (.ireturn) 1 15 := by decide +kernel
theorem dX10_best_15 : am_at cX10_best 15 (.aload_n 0) 1 16 := by decide +kernel
theorem dX10_best_16 : am_at cX10_best 16 (.invokevirtual 155) 3 19 := by decide +kernel
theorem dX10_best_19 : am_at cX10_best 19 (.aload_n 0) 1 20 := by decide +kernel
theorem dX10_best_20 : am_at cX10_best 20 (.getfield 22) 3 23 := by decide +kernel
theorem dX10_best_23 : am_at cX10_best 23 (.iload_n 1) 1 24 := by decide +kernel
theorem dX10_best_24 : am_at cX10_best 24 (.iaload) 1 25 := by decide +kernel
theorem dX10_best_25 : am_at cX10_best 25 (.ireturn) 1 26 := by decide +kernel
def fxX10_best (l0 : Option Nat) (l1 : Int32) (h : am_H) : Option (Int32 × am_H) := am_gd (am_ob h l0 10) (am_bd (fxX10_all l0 h) (fun r1 h2 => am_bd (fxX10_in l1 (0 : Int32) r1 h2) (fun r3 h4 => if r3 = 0 then (some ((-1000000001 : Int32), h4)) else (am_gd (am_ob h4 l0 10) (am_bd (fxX10_findBests l0 h4) (fun _ h5 => am_gd (am_ob h5 l0 10) (am_gd (am_ix h5 (am_gr h5 l0 5) 0 l1) (some ((am_gi h5 (am_gr h5 l0 5) l1.toNatClampNeg), h5)))))))))
set_option maxRecDepth 100000 in
theorem sxX10_best {xs : List Int32} (l0 : Option Nat) (l1 : Int32) (h : am_H) : am_Sm xs am_ci mX10_best 4 0 0 0 [some (am_R l0), some (am_I l1)] [] h (fxX10_best l0 l1 h) := by
  unfold fxX10_best
  refine am_iload_n dX10_best_0 rfl ?_
  refine am_iconst (v := 0) dX10_best_1 (by decide) ?_
  refine am_aload_n dX10_best_2 rfl ?_
  refine am_callV (cvj := am_ci) (mtj := mX10_all) (dj := 0) (nj := 0) (rcj := 0) (rsj := 0) (rc' := 0) (rs' := 0) (ci := 10) (st' := fun a9 => (am_I a9 :: [am_I (0 : Int32), am_I l1])) ⟨_, rfl, rfl⟩ [] [am_I (0 : Int32), am_I l1] dX10_best_3 okX10_all lk_RX10_152 (fun zA zH zE => txX10_all l0 h zA zH zE) rfl (fun _ => rfl) (by decide) rfl (Nat.le_of_ble_eq_true rfl) (by decide) (by decide) (fun r1 h2 => ?_)
  refine am_callS (cvj := am_ci) (mtj := mX10_in) (dj := 0) (nj := 3) (rcj := 0) (rsj := 0) (rc' := 0) (rs' := 0) (st' := fun a9 => (am_I a9 :: [])) [am_I l1, am_I (0 : Int32), am_I r1] [] dX10_best_6 okX10_in lk_RX10_85 (fun zA zH zE => txX10_in l1 (0 : Int32) r1 h2 zA zH zE) rfl (fun _ => rfl) (by decide) rfl (Nat.le_of_ble_eq_true rfl) (by decide) (by decide) (fun r3 h4 => ?_)
  refine am_if_ne (tgt := 15) dX10_best_9 (by decide) (fun c6 => ?_) (fun c6 => ?_)
  · refine am_aload_n dX10_best_15 rfl ?_
    refine am_callV (cvj := am_cu) (mtj := mX10_findBests) (dj := 3) (nj := 0) (rcj := 0) (rsj := 0) (rc' := 0) (rs' := 0) (ci := 10) (st' := fun _ => []) ⟨_, rfl, rfl⟩ [] [] dX10_best_16 okX10_findBests lk_RX10_155 (fun zA zH zE => txX10_findBests l0 h4 zA zH zE) rfl (fun _ => rfl) (by decide) rfl (Nat.le_of_ble_eq_true rfl) (by decide) (by decide) (fun _ h5 => ?_)
    refine am_aload_n dX10_best_19 rfl ?_
    refine am_getR dX10_best_20 fk_RX10_22 rfl ?_
    refine am_iload_n dX10_best_23 rfl ?_
    refine am_iald dX10_best_24 ?_
    exact am_iret dX10_best_25 rfl rfl
  refine am_ldc (v := (-1000000001)) dX10_best_12 wd1060 ?_
  exact am_iret dX10_best_14 rfl rfl
theorem txX10_best {xs : List Int32} (l0 : Option Nat) (l1 : Int32) (h : am_H) (a : Int32) (h2 : am_H) (e : fxX10_best l0 l1 h = some (a, h2)) : am_Ct xs mX10_best 4 0 0 [am_R l0, am_I l1] h (fun v h3 => v = am_ci a ∧ h3 = h2) := am_meth okX10_best (Nat.le_of_ble_eq_true rfl) rfl (sxX10_best l0 l1 h) e
theorem dX10_partner_0 : am_at cX10_partner 0 (.aload_n 0) 1 1 := by decide +kernel
theorem dX10_partner_1 : am_at cX10_partner 1 (.iload_n 1) 1 2 := by decide +kernel
theorem dX10_partner_2 : am_at cX10_partner 2 (.invokevirtual 103) 3 5 := by decide +kernel
theorem dX10_partner_5 : am_at cX10_partner 5 (.ifCond .ne 6) 3 8 := by decide +kernel
theorem dX10_partner_8 : am_at cX10_partner 8 (.ldc 93) 2 10 := by decide +kernel
theorem dX10_partner_10 : am_at cX10_partner 10 (.ireturn) 1 11 := by decide +kernel
theorem dX10_partner_11 : am_at cX10_partner 11 (.aload_n 0) 1 12 := by decide +kernel
theorem dX10_partner_12 : am_at cX10_partner 12 (.invokevirtual 155) 3 15 := by decide +kernel
theorem dX10_partner_15 : am_at cX10_partner 15 (.aload_n 0) 1 16 := by decide +kernel
theorem dX10_partner_16 : am_at cX10_partner 16 (.invokevirtual 152) 3 19 := by decide +kernel
theorem dX10_partner_19 : am_at cX10_partner 19 (.istore_n 2) 1 20 := by decide +kernel
theorem dX10_partner_20 : am_at cX10_partner 20 (.iconst (-1)) 1 21 := by decide +kernel
theorem dX10_partner_21 : am_at cX10_partner 21 (.istore_n 3) 1 22 := by decide +kernel
theorem dX10_partner_22 : am_at cX10_partner 22 (.iload_n 2) 1 23 := by decide +kernel
theorem dX10_partner_23 : am_at cX10_partner 23 (.ifCond .eq 177) 3 26 := by decide +kernel
theorem dX10_partner_26 : am_at cX10_partner 26 (.iload_n 2) 1 27 := by decide +kernel
theorem dX10_partner_27 : am_at cX10_partner 27 (.invokestatic 149) 3 30 := by decide +kernel
theorem dX10_partner_30 : am_at cX10_partner 30 (.istore 4) 2 32 := by decide +kernel
theorem dX10_partner_32 : am_at cX10_partner 32 (.iload_n 2) 1 33 := by decide +kernel
theorem dX10_partner_33 : am_at cX10_partner 33 (.iconst 1) 1 34 := by decide +kernel
theorem dX10_partner_34 : am_at cX10_partner 34 (.iload 4) 2 36 := by decide +kernel
theorem dX10_partner_36 : am_at cX10_partner 36 (.ishl) 1 37 := by decide +kernel
theorem dX10_partner_37 : am_at cX10_partner 37 (.iconst (-1)) 1 38 := by decide +kernel
theorem dX10_partner_38 : am_at cX10_partner 38 (.ixor) 1 39 := by decide +kernel
theorem dX10_partner_39 : am_at cX10_partner 39 (.iand) 1 40 := by decide +kernel
theorem dX10_partner_40 : am_at cX10_partner 40 (.istore 5) 2 42 := by decide +kernel
theorem dX10_partner_42 : am_at cX10_partner 42 (.iconst (-1)) 1 43 := by decide +kernel
theorem dX10_partner_43 : am_at cX10_partner 43 (.istore 6) 2 45 := by decide +kernel
theorem dX10_partner_45 : am_at cX10_partner 45 (.aload_n 0) 1 46 := by decide +kernel
theorem dX10_partner_46 : am_at cX10_partner 46 (.getfield 9) 3 49 := by decide +kernel
theorem dX10_partner_49 : am_at cX10_partner 49 (.iconst 1) 1 50 := by decide +kernel
theorem dX10_partner_50 : am_at cX10_partner 50 (.iaload) 1 51 := by decide +kernel
theorem dX10_partner_51 : am_at cX10_partner 51 (.iconst 1) 1 52 := by decide +kernel
theorem dX10_partner_52 : am_at cX10_partner 52 (.isub) 1 53 := by decide +kernel
theorem dX10_partner_53 : am_at cX10_partner 53 (.istore 7) 2 55 := by decide +kernel
theorem dX10_partner_55 : am_at cX10_partner 55 (.iload 7) 2 57 := by decide +kernel
theorem dX10_partner_57 : am_at cX10_partner 57 (.iload 4) 2 59 := by decide +kernel
theorem dX10_partner_59 : am_at cX10_partner 59 (.if_icmp .le 94) 3 62 := by decide +kernel
theorem dX10_partner_62 : am_at cX10_partner 62 (.iload 5) 2 64 := by decide +kernel
theorem dX10_partner_64 : am_at cX10_partner 64 (.iload 7) 2 66 := by decide +kernel
theorem dX10_partner_66 : am_at cX10_partner 66 (.ishr) 1 67 := by decide +kernel
theorem dX10_partner_67 : am_at cX10_partner 67 (.iconst 1) 1 68 := by decide +kernel
theorem dX10_partner_68 : am_at cX10_partner 68 (.iand) 1 69 := by decide +kernel
theorem dX10_partner_69 : am_at cX10_partner 69 (.iconst 1) 1 70 := by decide +kernel
theorem dX10_partner_70 : am_at cX10_partner 70 (.if_icmp .ne 23) 3 73 := by decide +kernel
theorem dX10_partner_73 : am_at cX10_partner 73 (.aload_n 0) 1 74 := by decide +kernel
theorem dX10_partner_74 : am_at cX10_partner 74 (.getfield 19) 3 77 := by decide +kernel
theorem dX10_partner_77 : am_at cX10_partner 77 (.bipush 10) 2 79 := by decide +kernel
theorem dX10_partner_79 : am_at cX10_partner 79 (.iload 4) 2 81 := by decide +kernel
theorem dX10_partner_81 : am_at cX10_partner 81 (.imul) 1 82 := by decide +kernel
theorem dX10_partner_82 : am_at cX10_partner 82 (.iload 7) 2 84 := by decide +kernel
theorem dX10_partner_84 : am_at cX10_partner 84 (.iadd) 1 85 := by decide +kernel
theorem dX10_partner_85 : am_at cX10_partner 85 (.iaload) 1 86 := by decide +kernel
theorem dX10_partner_86 : am_at cX10_partner 86 (.ifCond .lt 7) 3 89 := by decide +kernel
theorem dX10_partner_89 : am_at cX10_partner 89 (.iconst 1) 1 90 := by decide +kernel
theorem dX10_partner_90 : am_at cX10_partner 90 (.goto 4) 3 93 := by decide +kernel
theorem dX10_partner_93 : am_at cX10_partner 93 (.iconst 0) 1 94 := by decide +kernel
theorem dX10_partner_94 : am_at cX10_partner 94 (.istore 8) 2 96 := by decide +kernel
theorem dX10_partner_96 : am_at cX10_partner 96 (.iload 8) 2 98 := by decide +kernel
theorem dX10_partner_98 : am_at cX10_partner 98 (.ifCond .eq 45) 3 101 := by decide +kernel
theorem dX10_partner_101 : am_at cX10_partner 101 (.aload_n 0) 1 102 := by decide +kernel
theorem dX10_partner_102 : am_at cX10_partner 102 (.getfield 19) 3 105 := by decide +kernel
theorem dX10_partner_105 : am_at cX10_partner 105 (.bipush 10) 2 107 := by decide +kernel
theorem dX10_partner_107 : am_at cX10_partner 107 (.iload 4) 2 109 := by decide +kernel
theorem dX10_partner_109 : am_at cX10_partner 109 (.imul) 1 110 := by decide +kernel
theorem dX10_partner_110 : am_at cX10_partner 110 (.iload 7) 2 112 := by decide +kernel
theorem dX10_partner_112 : am_at cX10_partner 112 (.iadd) 1 113 := by decide +kernel
theorem dX10_partner_113 : am_at cX10_partner 113 (.iaload) 1 114 := by decide +kernel
theorem dX10_partner_114 : am_at cX10_partner 114 (.aload_n 0) 1 115 := by decide +kernel
theorem dX10_partner_115 : am_at cX10_partner 115 (.getfield 22) 3 118 := by decide +kernel
theorem dX10_partner_118 : am_at cX10_partner 118 (.iload 5) 2 120 := by decide +kernel
theorem dX10_partner_120 : am_at cX10_partner 120 (.iconst 1) 1 121 := by decide +kernel
theorem dX10_partner_121 : am_at cX10_partner 121 (.iload 7) 2 123 := by decide +kernel
theorem dX10_partner_123 : am_at cX10_partner 123 (.ishl) 1 124 := by decide +kernel
theorem dX10_partner_124 : am_at cX10_partner 124 (.iconst (-1)) 1 125 := by decide +kernel
theorem dX10_partner_125 : am_at cX10_partner 125 (.ixor) 1 126 := by decide +kernel
theorem dX10_partner_126 : am_at cX10_partner 126 (.iand) 1 127 := by decide +kernel
theorem dX10_partner_127 : am_at cX10_partner 127 (.iaload) 1 128 := by decide +kernel
theorem dX10_partner_128 : am_at cX10_partner 128 (.iadd) 1 129 := by decide +kernel
theorem dX10_partner_129 : am_at cX10_partner 129 (.aload_n 0) 1 130 := by decide +kernel
theorem dX10_partner_130 : am_at cX10_partner 130 (.getfield 22) 3 133 := by decide +kernel
theorem dX10_partner_133 : am_at cX10_partner 133 (.iload_n 2) 1 134 := by decide +kernel
theorem dX10_partner_134 : am_at cX10_partner 134 (.iaload) 1 135 := by decide +kernel
theorem dX10_partner_135 : am_at cX10_partner 135 (.if_icmp .ne 8) 3 138 := by decide +kernel
theorem dX10_partner_138 : am_at cX10_partner 138 (.iload 7) 2 140 := by decide +kernel
theorem dX10_partner_140 : am_at cX10_partner 140 (.goto 5) 3 143 := by decide +kernel
theorem dX10_partner_143 : am_at cX10_partner 143 (.iload 6) 2 145 := by decide +kernel
theorem dX10_partner_145 : am_at cX10_partner 145 (.istore 6) 2 147 := by decide +kernel
theorem dX10_partner_147 : am_at cX10_partner 147 (.iinc 7 (-1)) 3 150 := by decide +kernel
theorem dX10_partner_150 : am_at cX10_partner 150 (.goto (-95)) 3 153 := by decide +kernel
theorem dX10_partner_153 : am_at cX10_partner 153 (.iload 4) 2 155 := by decide +kernel
theorem dX10_partner_155 : am_at cX10_partner 155 (.iload_n 1) 1 156 := by decide +kernel
theorem dX10_partner_156 : am_at cX10_partner 156 (.if_icmp .ne 8) 3 159 := by decide +kernel
theorem dX10_partner_159 : am_at cX10_partner 159 (.iload 6) 2 161 := by decide +kernel
theorem dX10_partner_161 : am_at cX10_partner 161 (.goto 15) 3 164 := by decide +kernel
theorem dX10_partner_164 : am_at cX10_partner 164 (.iload 6) 2 166 := by decide +kernel
theorem dX10_partner_166 : am_at cX10_partner 166 (.iload_n 1) 1 167 := by decide +kernel
theorem dX10_partner_167 : am_at cX10_partner 167 (.if_icmp .ne 8) 3 170 := by decide +kernel
theorem dX10_partner_170 : am_at cX10_partner 170 (.iload 4) 2 172 := by decide +kernel
theorem dX10_partner_172 : am_at cX10_partner 172 (.goto 4) 3 175 := by decide +kernel
theorem dX10_partner_175 : am_at cX10_partner 175 (.iload_n 3) 1 176 := by decide +kernel
theorem dX10_partner_176 : am_at cX10_partner 176 (.istore_n 3) 1 177 := by decide +kernel
theorem dX10_partner_177 : am_at cX10_partner 177 (.iload 6) 2 179 := by decide +kernel
theorem dX10_partner_179 : am_at cX10_partner 179 (.ifCond .ge 8) 3 182 := by decide +kernel
theorem dX10_partner_182 : am_at cX10_partner 182 (.iload 5) 2 184 := by decide +kernel
theorem dX10_partner_184 : am_at cX10_partner 184 (.goto 12) 3 187 := by decide +kernel
theorem dX10_partner_187 : am_at cX10_partner 187 (.iload 5) 2 189 := by decide +kernel
theorem dX10_partner_189 : am_at cX10_partner 189 (.iconst 1) 1 190 := by decide +kernel
theorem dX10_partner_190 : am_at cX10_partner 190 (.iload 6) 2 192 := by decide +kernel
theorem dX10_partner_192 : am_at cX10_partner 192 (.ishl) 1 193 := by decide +kernel
theorem dX10_partner_193 : am_at cX10_partner 193 (.iconst (-1)) 1 194 := by decide +kernel
theorem dX10_partner_194 : am_at cX10_partner 194 (.ixor) 1 195 := by decide +kernel
theorem dX10_partner_195 : am_at cX10_partner 195 (.iand) 1 196 := by decide +kernel
theorem dX10_partner_196 : am_at cX10_partner 196 (.istore_n 2) 1 197 := by decide +kernel
theorem dX10_partner_197 : am_at cX10_partner 197 (.goto (-175)) 3 200 := by decide +kernel
theorem dX10_partner_200 : am_at cX10_partner 200 (.iload_n 3) 1 201 := by decide +kernel
theorem dX10_partner_201 : am_at cX10_partner 201 (.invokestatic 158) 3 204 := by decide +kernel
theorem dX10_partner_204 : am_at cX10_partner 204 (.ireturn) 1 205 := by decide +kernel
def fxX10_partner_b145 (k22 : Option Nat → Int32 → Int32 → Int32 → am_H → Option (Int32 × am_H)) (k55 : Option Nat → Int32 → Int32 → Int32 → Int32 → Int32 → Int32 → Int32 → am_H → Option (Int32 × am_H)) (l0 : Option Nat) (l1 : Int32) (l2 : Int32) (l3 : Int32) (l4 : Int32) (l5 : Int32) (l7 : Int32) (s0 : Int32) (h : am_H) : Option (Int32 × am_H) := am_lt s0 (fun x29 => am_lt (l7 + (-1)) (fun x30 => k55 l0 l1 l2 l3 l4 l5 x29 x30 h))
set_option maxRecDepth 100000 in
theorem sxX10_partner_b145 {xs : List Int32} (k22 : Option Nat → Int32 → Int32 → Int32 → am_H → Option (Int32 × am_H)) (hk22 : ∀ (l0 : Option Nat) (l1 : Int32) (l2 : Int32) (l3 : Int32) (h : am_H), am_Sm xs am_ci mX10_partner 4 0 0 22 [some (am_R l0), some (am_I l1), some (am_I l2), some (am_I l3), none, none, none, none, none] [] h (k22 l0 l1 l2 l3 h)) (k55 : Option Nat → Int32 → Int32 → Int32 → Int32 → Int32 → Int32 → Int32 → am_H → Option (Int32 × am_H)) (hk55 : ∀ (l0 : Option Nat) (l1 : Int32) (l2 : Int32) (l3 : Int32) (l4 : Int32) (l5 : Int32) (l6 : Int32) (l7 : Int32) (h : am_H), am_Sm xs am_ci mX10_partner 4 0 0 55 [some (am_R l0), some (am_I l1), some (am_I l2), some (am_I l3), some (am_I l4), some (am_I l5), some (am_I l6), some (am_I l7), none] [] h (k55 l0 l1 l2 l3 l4 l5 l6 l7 h)) (l0 : Option Nat) (l1 : Int32) (l2 : Int32) (l3 : Int32) (l4 : Int32) (l5 : Int32) (l7 : Int32) (s0 : Int32) (h : am_H) : am_Sm xs am_ci mX10_partner 4 0 0 145 [some (am_R l0), some (am_I l1), some (am_I l2), some (am_I l3), some (am_I l4), some (am_I l5), none, some (am_I l7), none] [am_I s0] h (fxX10_partner_b145 k22 k55 l0 l1 l2 l3 l4 l5 l7 s0 h) := by
  unfold fxX10_partner_b145
  refine am_istore (LL := fun y9 => [some (am_R l0), some (am_I l1), some (am_I l2), some (am_I l3), some (am_I l4), some (am_I l5), some (am_I y9), some (am_I l7), none]) dX10_partner_145 (by decide) (fun _ => rfl) (fun x29 => ?_)
  refine am_iinc (v := (-1)) (LL := fun y9 => [some (am_R l0), some (am_I l1), some (am_I l2), some (am_I l3), some (am_I l4), some (am_I l5), some (am_I x29), some (am_I y9), none]) dX10_partner_147 (by decide) rfl (by decide) (fun _ => rfl) (fun x30 => ?_)
  refine am_goto (tgt := 55) dX10_partner_150 (by decide) ?_
  exact am_weak (hk55 l0 l1 l2 l3 l4 l5 x29 x30 h) ⟨rfl, ⟨rfl, ⟨rfl, ⟨rfl, ⟨rfl, ⟨rfl, ⟨rfl, ⟨rfl, trivial⟩⟩⟩⟩⟩⟩⟩⟩ (Nat.le_refl _) (Nat.le_refl _)
def fxX10_partner_b143 (k22 : Option Nat → Int32 → Int32 → Int32 → am_H → Option (Int32 × am_H)) (k55 : Option Nat → Int32 → Int32 → Int32 → Int32 → Int32 → Int32 → Int32 → am_H → Option (Int32 × am_H)) (l0 : Option Nat) (l1 : Int32) (l2 : Int32) (l3 : Int32) (l4 : Int32) (l5 : Int32) (l6 : Int32) (l7 : Int32) (h : am_H) : Option (Int32 × am_H) := fxX10_partner_b145 k22 k55 l0 l1 l2 l3 l4 l5 l7 l6 h
set_option maxRecDepth 100000 in
theorem sxX10_partner_b143 {xs : List Int32} (k22 : Option Nat → Int32 → Int32 → Int32 → am_H → Option (Int32 × am_H)) (hk22 : ∀ (l0 : Option Nat) (l1 : Int32) (l2 : Int32) (l3 : Int32) (h : am_H), am_Sm xs am_ci mX10_partner 4 0 0 22 [some (am_R l0), some (am_I l1), some (am_I l2), some (am_I l3), none, none, none, none, none] [] h (k22 l0 l1 l2 l3 h)) (k55 : Option Nat → Int32 → Int32 → Int32 → Int32 → Int32 → Int32 → Int32 → am_H → Option (Int32 × am_H)) (hk55 : ∀ (l0 : Option Nat) (l1 : Int32) (l2 : Int32) (l3 : Int32) (l4 : Int32) (l5 : Int32) (l6 : Int32) (l7 : Int32) (h : am_H), am_Sm xs am_ci mX10_partner 4 0 0 55 [some (am_R l0), some (am_I l1), some (am_I l2), some (am_I l3), some (am_I l4), some (am_I l5), some (am_I l6), some (am_I l7), none] [] h (k55 l0 l1 l2 l3 l4 l5 l6 l7 h)) (l0 : Option Nat) (l1 : Int32) (l2 : Int32) (l3 : Int32) (l4 : Int32) (l5 : Int32) (l6 : Int32) (l7 : Int32) (h : am_H) : am_Sm xs am_ci mX10_partner 4 0 0 143 [some (am_R l0), some (am_I l1), some (am_I l2), some (am_I l3), some (am_I l4), some (am_I l5), some (am_I l6), some (am_I l7), none] [] h (fxX10_partner_b143 k22 k55 l0 l1 l2 l3 l4 l5 l6 l7 h) := by
  unfold fxX10_partner_b143
  refine am_iload dX10_partner_143 rfl ?_
  exact am_weak (sxX10_partner_b145 k22 hk22 k55 hk55 l0 l1 l2 l3 l4 l5 l7 l6 h) ⟨rfl, ⟨rfl, ⟨rfl, ⟨rfl, ⟨rfl, ⟨rfl, ⟨rfl, trivial⟩⟩⟩⟩⟩⟩⟩ (Nat.le_refl _) (Nat.le_refl _)
def fxX10_partner_b94 (k22 : Option Nat → Int32 → Int32 → Int32 → am_H → Option (Int32 × am_H)) (k55 : Option Nat → Int32 → Int32 → Int32 → Int32 → Int32 → Int32 → Int32 → am_H → Option (Int32 × am_H)) (l0 : Option Nat) (l1 : Int32) (l2 : Int32) (l3 : Int32) (l4 : Int32) (l5 : Int32) (l6 : Int32) (l7 : Int32) (s0 : Int32) (h : am_H) : Option (Int32 × am_H) := am_lt s0 (fun x25 => if x25 = 0 then (fxX10_partner_b143 k22 k55 l0 l1 l2 l3 l4 l5 l6 l7 h) else (am_gd (am_ob h l0 10) (am_gd (am_ix h (am_gr h l0 4) 0 (((10 : Int32) * l4) + l7)) (am_gd (am_ob h l0 10) (am_gd (am_ix h (am_gr h l0 5) 0 (l5 &&& (((1 : Int32) <<< (l7 &&& 31)) ^^^ (-1 : Int32)))) (am_gd (am_ob h l0 10) (am_gd (am_ix h (am_gr h l0 5) 0 l2) (if ((am_gi h (am_gr h l0 4) (((10 : Int32) * l4) + l7).toNatClampNeg) + (am_gi h (am_gr h l0 5) (l5 &&& (((1 : Int32) <<< (l7 &&& 31)) ^^^ (-1 : Int32))).toNatClampNeg)) = (am_gi h (am_gr h l0 5) l2.toNatClampNeg) then (fxX10_partner_b145 k22 k55 l0 l1 l2 l3 l4 l5 l7 l7 h) else (fxX10_partner_b143 k22 k55 l0 l1 l2 l3 l4 l5 l6 l7 h)))))))))
set_option maxRecDepth 100000 in
theorem sxX10_partner_b94 {xs : List Int32} (k22 : Option Nat → Int32 → Int32 → Int32 → am_H → Option (Int32 × am_H)) (hk22 : ∀ (l0 : Option Nat) (l1 : Int32) (l2 : Int32) (l3 : Int32) (h : am_H), am_Sm xs am_ci mX10_partner 4 0 0 22 [some (am_R l0), some (am_I l1), some (am_I l2), some (am_I l3), none, none, none, none, none] [] h (k22 l0 l1 l2 l3 h)) (k55 : Option Nat → Int32 → Int32 → Int32 → Int32 → Int32 → Int32 → Int32 → am_H → Option (Int32 × am_H)) (hk55 : ∀ (l0 : Option Nat) (l1 : Int32) (l2 : Int32) (l3 : Int32) (l4 : Int32) (l5 : Int32) (l6 : Int32) (l7 : Int32) (h : am_H), am_Sm xs am_ci mX10_partner 4 0 0 55 [some (am_R l0), some (am_I l1), some (am_I l2), some (am_I l3), some (am_I l4), some (am_I l5), some (am_I l6), some (am_I l7), none] [] h (k55 l0 l1 l2 l3 l4 l5 l6 l7 h)) (l0 : Option Nat) (l1 : Int32) (l2 : Int32) (l3 : Int32) (l4 : Int32) (l5 : Int32) (l6 : Int32) (l7 : Int32) (s0 : Int32) (h : am_H) : am_Sm xs am_ci mX10_partner 4 0 0 94 [some (am_R l0), some (am_I l1), some (am_I l2), some (am_I l3), some (am_I l4), some (am_I l5), some (am_I l6), some (am_I l7), none] [am_I s0] h (fxX10_partner_b94 k22 k55 l0 l1 l2 l3 l4 l5 l6 l7 s0 h) := by
  unfold fxX10_partner_b94
  refine am_istore (LL := fun y9 => [some (am_R l0), some (am_I l1), some (am_I l2), some (am_I l3), some (am_I l4), some (am_I l5), some (am_I l6), some (am_I l7), some (am_I y9)]) dX10_partner_94 (by decide) (fun _ => rfl) (fun x25 => ?_)
  refine am_iload dX10_partner_96 rfl ?_
  refine am_if_eq (tgt := 143) dX10_partner_98 (by decide) (fun c27 => ?_) (fun c27 => ?_)
  · exact am_weak (sxX10_partner_b143 k22 hk22 k55 hk55 l0 l1 l2 l3 l4 l5 l6 l7 h) ⟨rfl, ⟨rfl, ⟨rfl, ⟨rfl, ⟨rfl, ⟨rfl, ⟨rfl, ⟨rfl, trivial⟩⟩⟩⟩⟩⟩⟩⟩ (Nat.le_refl _) (Nat.le_refl _)
  refine am_aload_n dX10_partner_101 rfl ?_
  refine am_getR dX10_partner_102 fk_RX10_19 rfl ?_
  refine am_bipush (v := 10) dX10_partner_105 (by decide) ?_
  refine am_iload dX10_partner_107 rfl ?_
  refine am_imul dX10_partner_109 ?_
  refine am_iload dX10_partner_110 rfl ?_
  refine am_iadd dX10_partner_112 ?_
  refine am_iald dX10_partner_113 ?_
  refine am_aload_n dX10_partner_114 rfl ?_
  refine am_getR dX10_partner_115 fk_RX10_22 rfl ?_
  refine am_iload dX10_partner_118 rfl ?_
  refine am_iconst (v := 1) dX10_partner_120 (by decide) ?_
  refine am_iload dX10_partner_121 rfl ?_
  refine am_ishl dX10_partner_123 ?_
  refine am_iconst (v := (-1)) dX10_partner_124 (by decide) ?_
  refine am_ixor dX10_partner_125 ?_
  refine am_iand dX10_partner_126 ?_
  refine am_iald dX10_partner_127 ?_
  refine am_iadd dX10_partner_128 ?_
  refine am_aload_n dX10_partner_129 rfl ?_
  refine am_getR dX10_partner_130 fk_RX10_22 rfl ?_
  refine am_iload_n dX10_partner_133 rfl ?_
  refine am_iald dX10_partner_134 ?_
  refine am_icmp_ne (tgt := 143) dX10_partner_135 (by decide) (fun c26 => ?_) (fun c26 => ?_)
  · exact am_weak (sxX10_partner_b143 k22 hk22 k55 hk55 l0 l1 l2 l3 l4 l5 l6 l7 h) ⟨rfl, ⟨rfl, ⟨rfl, ⟨rfl, ⟨rfl, ⟨rfl, ⟨rfl, ⟨rfl, trivial⟩⟩⟩⟩⟩⟩⟩⟩ (Nat.le_refl _) (Nat.le_refl _)
  refine am_iload dX10_partner_138 rfl ?_
  refine am_goto (tgt := 145) dX10_partner_140 (by decide) ?_
  exact am_weak (sxX10_partner_b145 k22 hk22 k55 hk55 l0 l1 l2 l3 l4 l5 l7 l7 h) ⟨rfl, ⟨rfl, ⟨rfl, ⟨rfl, ⟨rfl, ⟨rfl, ⟨rfl, trivial⟩⟩⟩⟩⟩⟩⟩ (Nat.le_refl _) (Nat.le_refl _)
def fxX10_partner_b93 (k22 : Option Nat → Int32 → Int32 → Int32 → am_H → Option (Int32 × am_H)) (k55 : Option Nat → Int32 → Int32 → Int32 → Int32 → Int32 → Int32 → Int32 → am_H → Option (Int32 × am_H)) (l0 : Option Nat) (l1 : Int32) (l2 : Int32) (l3 : Int32) (l4 : Int32) (l5 : Int32) (l6 : Int32) (l7 : Int32) (h : am_H) : Option (Int32 × am_H) := fxX10_partner_b94 k22 k55 l0 l1 l2 l3 l4 l5 l6 l7 (0 : Int32) h
set_option maxRecDepth 100000 in
theorem sxX10_partner_b93 {xs : List Int32} (k22 : Option Nat → Int32 → Int32 → Int32 → am_H → Option (Int32 × am_H)) (hk22 : ∀ (l0 : Option Nat) (l1 : Int32) (l2 : Int32) (l3 : Int32) (h : am_H), am_Sm xs am_ci mX10_partner 4 0 0 22 [some (am_R l0), some (am_I l1), some (am_I l2), some (am_I l3), none, none, none, none, none] [] h (k22 l0 l1 l2 l3 h)) (k55 : Option Nat → Int32 → Int32 → Int32 → Int32 → Int32 → Int32 → Int32 → am_H → Option (Int32 × am_H)) (hk55 : ∀ (l0 : Option Nat) (l1 : Int32) (l2 : Int32) (l3 : Int32) (l4 : Int32) (l5 : Int32) (l6 : Int32) (l7 : Int32) (h : am_H), am_Sm xs am_ci mX10_partner 4 0 0 55 [some (am_R l0), some (am_I l1), some (am_I l2), some (am_I l3), some (am_I l4), some (am_I l5), some (am_I l6), some (am_I l7), none] [] h (k55 l0 l1 l2 l3 l4 l5 l6 l7 h)) (l0 : Option Nat) (l1 : Int32) (l2 : Int32) (l3 : Int32) (l4 : Int32) (l5 : Int32) (l6 : Int32) (l7 : Int32) (h : am_H) : am_Sm xs am_ci mX10_partner 4 0 0 93 [some (am_R l0), some (am_I l1), some (am_I l2), some (am_I l3), some (am_I l4), some (am_I l5), some (am_I l6), some (am_I l7), none] [] h (fxX10_partner_b93 k22 k55 l0 l1 l2 l3 l4 l5 l6 l7 h) := by
  unfold fxX10_partner_b93
  refine am_iconst (v := 0) dX10_partner_93 (by decide) ?_
  exact am_weak (sxX10_partner_b94 k22 hk22 k55 hk55 l0 l1 l2 l3 l4 l5 l6 l7 (0 : Int32) h) ⟨rfl, ⟨rfl, ⟨rfl, ⟨rfl, ⟨rfl, ⟨rfl, ⟨rfl, ⟨rfl, trivial⟩⟩⟩⟩⟩⟩⟩⟩ (Nat.le_refl _) (Nat.le_refl _)
def fxX10_partner_b196 (k22 : Option Nat → Int32 → Int32 → Int32 → am_H → Option (Int32 × am_H)) (l0 : Option Nat) (l1 : Int32) (l3 : Int32) (s0 : Int32) (h : am_H) : Option (Int32 × am_H) := am_lt s0 (fun x28 => k22 l0 l1 x28 l3 h)
set_option maxRecDepth 100000 in
theorem sxX10_partner_b196 {xs : List Int32} (k22 : Option Nat → Int32 → Int32 → Int32 → am_H → Option (Int32 × am_H)) (hk22 : ∀ (l0 : Option Nat) (l1 : Int32) (l2 : Int32) (l3 : Int32) (h : am_H), am_Sm xs am_ci mX10_partner 4 0 0 22 [some (am_R l0), some (am_I l1), some (am_I l2), some (am_I l3), none, none, none, none, none] [] h (k22 l0 l1 l2 l3 h)) (l0 : Option Nat) (l1 : Int32) (l3 : Int32) (s0 : Int32) (h : am_H) : am_Sm xs am_ci mX10_partner 4 0 0 196 [some (am_R l0), some (am_I l1), none, some (am_I l3), none, none, none, none, none] [am_I s0] h (fxX10_partner_b196 k22 l0 l1 l3 s0 h) := by
  unfold fxX10_partner_b196
  refine am_istore_n (LL := fun y9 => [some (am_R l0), some (am_I l1), some (am_I y9), some (am_I l3), none, none, none, none, none]) dX10_partner_196 (by decide) (fun _ => rfl) (fun x28 => ?_)
  refine am_goto (tgt := 22) dX10_partner_197 (by decide) ?_
  exact am_weak (hk22 l0 l1 x28 l3 h) ⟨rfl, ⟨rfl, ⟨rfl, ⟨rfl, trivial⟩⟩⟩⟩ (Nat.le_refl _) (Nat.le_refl _)
def fxX10_partner_b176 (k22 : Option Nat → Int32 → Int32 → Int32 → am_H → Option (Int32 × am_H)) (l0 : Option Nat) (l1 : Int32) (l5 : Int32) (l6 : Int32) (s0 : Int32) (h : am_H) : Option (Int32 × am_H) := am_lt s0 (fun x23 => if 0 ≤ l6 then (fxX10_partner_b196 k22 l0 l1 x23 (l5 &&& (((1 : Int32) <<< (l6 &&& 31)) ^^^ (-1 : Int32))) h) else (fxX10_partner_b196 k22 l0 l1 x23 l5 h))
set_option maxRecDepth 100000 in
theorem sxX10_partner_b176 {xs : List Int32} (k22 : Option Nat → Int32 → Int32 → Int32 → am_H → Option (Int32 × am_H)) (hk22 : ∀ (l0 : Option Nat) (l1 : Int32) (l2 : Int32) (l3 : Int32) (h : am_H), am_Sm xs am_ci mX10_partner 4 0 0 22 [some (am_R l0), some (am_I l1), some (am_I l2), some (am_I l3), none, none, none, none, none] [] h (k22 l0 l1 l2 l3 h)) (l0 : Option Nat) (l1 : Int32) (l5 : Int32) (l6 : Int32) (s0 : Int32) (h : am_H) : am_Sm xs am_ci mX10_partner 4 0 0 176 [some (am_R l0), some (am_I l1), none, none, none, some (am_I l5), some (am_I l6), none, none] [am_I s0] h (fxX10_partner_b176 k22 l0 l1 l5 l6 s0 h) := by
  unfold fxX10_partner_b176
  refine am_istore_n (LL := fun y9 => [some (am_R l0), some (am_I l1), none, some (am_I y9), none, some (am_I l5), some (am_I l6), none, none]) dX10_partner_176 (by decide) (fun _ => rfl) (fun x23 => ?_)
  refine am_iload dX10_partner_177 rfl ?_
  refine am_if_ge (tgt := 187) dX10_partner_179 (by decide) (fun c24 => ?_) (fun c24 => ?_)
  · refine am_iload dX10_partner_187 rfl ?_
    refine am_iconst (v := 1) dX10_partner_189 (by decide) ?_
    refine am_iload dX10_partner_190 rfl ?_
    refine am_ishl dX10_partner_192 ?_
    refine am_iconst (v := (-1)) dX10_partner_193 (by decide) ?_
    refine am_ixor dX10_partner_194 ?_
    refine am_iand dX10_partner_195 ?_
    exact am_weak (sxX10_partner_b196 k22 hk22 l0 l1 x23 (l5 &&& (((1 : Int32) <<< (l6 &&& 31)) ^^^ (-1 : Int32))) h) ⟨rfl, ⟨rfl, ⟨rfl, trivial⟩⟩⟩ (Nat.le_refl _) (Nat.le_refl _)
  refine am_iload dX10_partner_182 rfl ?_
  refine am_goto (tgt := 196) dX10_partner_184 (by decide) ?_
  exact am_weak (sxX10_partner_b196 k22 hk22 l0 l1 x23 l5 h) ⟨rfl, ⟨rfl, ⟨rfl, trivial⟩⟩⟩ (Nat.le_refl _) (Nat.le_refl _)
def fxX10_partner_b55 (k22 : Option Nat → Int32 → Int32 → Int32 → am_H → Option (Int32 × am_H)) : Nat → Option Nat → Int32 → Int32 → Int32 → Int32 → Int32 → Int32 → Int32 → am_H → Option (Int32 × am_H)
  | 0, _, _, _, _, _, _, _, _, _ => none
  | n + 1, l0, l1, l2, l3, l4, l5, l6, l7, h => if l7 ≤ l4 then (if l4 = l1 then (fxX10_partner_b176 k22 l0 l1 l5 l6 l6 h) else (if l6 = l1 then (fxX10_partner_b176 k22 l0 l1 l5 l6 l4 h) else (fxX10_partner_b176 k22 l0 l1 l5 l6 l3 h))) else (if ((l5 >>> (l7 &&& 31)) &&& (1 : Int32)) = (1 : Int32) then (am_gd (am_ob h l0 10) (am_gd (am_ix h (am_gr h l0 4) 0 (((10 : Int32) * l4) + l7)) (if (am_gi h (am_gr h l0 4) (((10 : Int32) * l4) + l7).toNatClampNeg) < 0 then (fxX10_partner_b93 k22 (fxX10_partner_b55 k22 n) l0 l1 l2 l3 l4 l5 l6 l7 h) else (fxX10_partner_b94 k22 (fxX10_partner_b55 k22 n) l0 l1 l2 l3 l4 l5 l6 l7 (1 : Int32) h)))) else (fxX10_partner_b93 k22 (fxX10_partner_b55 k22 n) l0 l1 l2 l3 l4 l5 l6 l7 h))
set_option maxRecDepth 100000 in
theorem sxX10_partner_b55 {xs : List Int32} (k22 : Option Nat → Int32 → Int32 → Int32 → am_H → Option (Int32 × am_H)) (hk22 : ∀ (l0 : Option Nat) (l1 : Int32) (l2 : Int32) (l3 : Int32) (h : am_H), am_Sm xs am_ci mX10_partner 4 0 0 22 [some (am_R l0), some (am_I l1), some (am_I l2), some (am_I l3), none, none, none, none, none] [] h (k22 l0 l1 l2 l3 h)) : ∀ (n : Nat) (l0 : Option Nat) (l1 : Int32) (l2 : Int32) (l3 : Int32) (l4 : Int32) (l5 : Int32) (l6 : Int32) (l7 : Int32) (h : am_H), am_Sm xs am_ci mX10_partner 4 0 0 55 [some (am_R l0), some (am_I l1), some (am_I l2), some (am_I l3), some (am_I l4), some (am_I l5), some (am_I l6), some (am_I l7), none] [] h (fxX10_partner_b55 k22 n l0 l1 l2 l3 l4 l5 l6 l7 h) := by
  intro n
  induction n with
  | zero => intros; exact am_none
  | succ n ih =>
    intro l0 l1 l2 l3 l4 l5 l6 l7 h
    rw [fxX10_partner_b55]
    refine am_iload dX10_partner_55 rfl ?_
    refine am_iload dX10_partner_57 rfl ?_
    refine am_icmp_le (tgt := 153) dX10_partner_59 (by decide) (fun c22 => ?_) (fun c22 => ?_)
    · refine am_iload dX10_partner_153 rfl ?_
      refine am_iload_n dX10_partner_155 rfl ?_
      refine am_icmp_ne (tgt := 164) dX10_partner_156 (by decide) (fun c19 => ?_) (fun c19 => ?_)
      · refine am_iload dX10_partner_164 rfl ?_
        refine am_iload_n dX10_partner_166 rfl ?_
        refine am_icmp_ne (tgt := 175) dX10_partner_167 (by decide) (fun c18 => ?_) (fun c18 => ?_)
        · refine am_iload_n dX10_partner_175 rfl ?_
          exact am_weak (sxX10_partner_b176 k22 hk22 l0 l1 l5 l6 l3 h) ⟨rfl, ⟨rfl, ⟨rfl, ⟨rfl, trivial⟩⟩⟩⟩ (Nat.le_refl _) (Nat.le_refl _)
        refine am_iload dX10_partner_170 rfl ?_
        refine am_goto (tgt := 176) dX10_partner_172 (by decide) ?_
        exact am_weak (sxX10_partner_b176 k22 hk22 l0 l1 l5 l6 l4 h) ⟨rfl, ⟨rfl, ⟨rfl, ⟨rfl, trivial⟩⟩⟩⟩ (Nat.le_refl _) (Nat.le_refl _)
      refine am_iload dX10_partner_159 rfl ?_
      refine am_goto (tgt := 176) dX10_partner_161 (by decide) ?_
      exact am_weak (sxX10_partner_b176 k22 hk22 l0 l1 l5 l6 l6 h) ⟨rfl, ⟨rfl, ⟨rfl, ⟨rfl, trivial⟩⟩⟩⟩ (Nat.le_refl _) (Nat.le_refl _)
    refine am_iload dX10_partner_62 rfl ?_
    refine am_iload dX10_partner_64 rfl ?_
    refine am_ishr dX10_partner_66 ?_
    refine am_iconst (v := 1) dX10_partner_67 (by decide) ?_
    refine am_iand dX10_partner_68 ?_
    refine am_iconst (v := 1) dX10_partner_69 (by decide) ?_
    refine am_icmp_ne (tgt := 93) dX10_partner_70 (by decide) (fun c21 => ?_) (fun c21 => ?_)
    · exact am_weak (sxX10_partner_b93 k22 hk22 (fxX10_partner_b55 k22 n) ih l0 l1 l2 l3 l4 l5 l6 l7 h) ⟨rfl, ⟨rfl, ⟨rfl, ⟨rfl, ⟨rfl, ⟨rfl, ⟨rfl, ⟨rfl, trivial⟩⟩⟩⟩⟩⟩⟩⟩ (Nat.le_refl _) (Nat.le_refl _)
    refine am_aload_n dX10_partner_73 rfl ?_
    refine am_getR dX10_partner_74 fk_RX10_19 rfl ?_
    refine am_bipush (v := 10) dX10_partner_77 (by decide) ?_
    refine am_iload dX10_partner_79 rfl ?_
    refine am_imul dX10_partner_81 ?_
    refine am_iload dX10_partner_82 rfl ?_
    refine am_iadd dX10_partner_84 ?_
    refine am_iald dX10_partner_85 ?_
    refine am_if_lt (tgt := 93) dX10_partner_86 (by decide) (fun c20 => ?_) (fun c20 => ?_)
    · exact am_weak (sxX10_partner_b93 k22 hk22 (fxX10_partner_b55 k22 n) ih l0 l1 l2 l3 l4 l5 l6 l7 h) ⟨rfl, ⟨rfl, ⟨rfl, ⟨rfl, ⟨rfl, ⟨rfl, ⟨rfl, ⟨rfl, trivial⟩⟩⟩⟩⟩⟩⟩⟩ (Nat.le_refl _) (Nat.le_refl _)
    refine am_iconst (v := 1) dX10_partner_89 (by decide) ?_
    refine am_goto (tgt := 94) dX10_partner_90 (by decide) ?_
    exact am_weak (sxX10_partner_b94 k22 hk22 (fxX10_partner_b55 k22 n) ih l0 l1 l2 l3 l4 l5 l6 l7 (1 : Int32) h) ⟨rfl, ⟨rfl, ⟨rfl, ⟨rfl, ⟨rfl, ⟨rfl, ⟨rfl, ⟨rfl, trivial⟩⟩⟩⟩⟩⟩⟩⟩ (Nat.le_refl _) (Nat.le_refl _)
def fxX10_partner_b22 : Nat → Option Nat → Int32 → Int32 → Int32 → am_H → Option (Int32 × am_H)
  | 0, _, _, _, _, _ => none
  | n + 1, l0, l1, l2, l3, h => if l2 = 0 then (am_bd (fxX10_told0 l3 h) (fun r9 h10 => some (r9, h10))) else (am_bd (fxX10_firstOf l2 h) (fun r11 h12 => am_lt r11 (fun x13 => am_lt (l2 &&& (((1 : Int32) <<< (x13 &&& 31)) ^^^ (-1 : Int32))) (fun x14 => am_lt (-1 : Int32) (fun x15 => am_gd (am_ob h12 l0 10) (am_gd (am_ix h12 (am_gr h12 l0 0) 0 (1 : Int32)) (am_lt ((am_gi h12 (am_gr h12 l0 0) (1 : Int32).toNatClampNeg) - (1 : Int32)) (fun x16 => fxX10_partner_b55 (fxX10_partner_b22 n) am_F l0 l1 l2 l3 x13 x14 x15 x16 h12))))))))
set_option maxRecDepth 100000 in
theorem sxX10_partner_b22 {xs : List Int32} : ∀ (n : Nat) (l0 : Option Nat) (l1 : Int32) (l2 : Int32) (l3 : Int32) (h : am_H), am_Sm xs am_ci mX10_partner 4 0 0 22 [some (am_R l0), some (am_I l1), some (am_I l2), some (am_I l3), none, none, none, none, none] [] h (fxX10_partner_b22 n l0 l1 l2 l3 h) := by
  intro n
  induction n with
  | zero => intros; exact am_none
  | succ n ih =>
    intro l0 l1 l2 l3 h
    rw [fxX10_partner_b22]
    refine am_iload_n dX10_partner_22 rfl ?_
    refine am_if_eq (tgt := 200) dX10_partner_23 (by decide) (fun c17 => ?_) (fun c17 => ?_)
    · refine am_iload_n dX10_partner_200 rfl ?_
      refine am_callS (cvj := am_ci) (mtj := mX10_told0) (dj := 0) (nj := 1) (rcj := 0) (rsj := 0) (rc' := 0) (rs' := 0) (st' := fun a9 => (am_I a9 :: [])) [am_I l3] [] dX10_partner_201 okX10_told0 lk_RX10_158 (fun zA zH zE => txX10_told0 l3 h zA zH zE) rfl (fun _ => rfl) (by decide) rfl (Nat.le_of_ble_eq_true rfl) (by decide) (by decide) (fun r9 h10 => ?_)
      exact am_iret dX10_partner_204 rfl rfl
    refine am_iload_n dX10_partner_26 rfl ?_
    refine am_callS (cvj := am_ci) (mtj := mX10_firstOf) (dj := 0) (nj := 1) (rcj := 0) (rsj := 0) (rc' := 0) (rs' := 0) (st' := fun a9 => (am_I a9 :: [])) [am_I l2] [] dX10_partner_27 okX10_firstOf lk_RX10_149 (fun zA zH zE => txX10_firstOf l2 h zA zH zE) rfl (fun _ => rfl) (by decide) rfl (Nat.le_of_ble_eq_true rfl) (by decide) (by decide) (fun r11 h12 => ?_)
    refine am_istore (LL := fun y9 => [some (am_R l0), some (am_I l1), some (am_I l2), some (am_I l3), some (am_I y9), none, none, none, none]) dX10_partner_30 (by decide) (fun _ => rfl) (fun x13 => ?_)
    refine am_iload_n dX10_partner_32 rfl ?_
    refine am_iconst (v := 1) dX10_partner_33 (by decide) ?_
    refine am_iload dX10_partner_34 rfl ?_
    refine am_ishl dX10_partner_36 ?_
    refine am_iconst (v := (-1)) dX10_partner_37 (by decide) ?_
    refine am_ixor dX10_partner_38 ?_
    refine am_iand dX10_partner_39 ?_
    refine am_istore (LL := fun y9 => [some (am_R l0), some (am_I l1), some (am_I l2), some (am_I l3), some (am_I x13), some (am_I y9), none, none, none]) dX10_partner_40 (by decide) (fun _ => rfl) (fun x14 => ?_)
    refine am_iconst (v := (-1)) dX10_partner_42 (by decide) ?_
    refine am_istore (LL := fun y9 => [some (am_R l0), some (am_I l1), some (am_I l2), some (am_I l3), some (am_I x13), some (am_I x14), some (am_I y9), none, none]) dX10_partner_43 (by decide) (fun _ => rfl) (fun x15 => ?_)
    refine am_aload_n dX10_partner_45 rfl ?_
    refine am_getR dX10_partner_46 fk_RX10_9 rfl ?_
    refine am_iconst (v := 1) dX10_partner_49 (by decide) ?_
    refine am_iald dX10_partner_50 ?_
    refine am_iconst (v := 1) dX10_partner_51 (by decide) ?_
    refine am_isub dX10_partner_52 ?_
    refine am_istore (LL := fun y9 => [some (am_R l0), some (am_I l1), some (am_I l2), some (am_I l3), some (am_I x13), some (am_I x14), some (am_I x15), some (am_I y9), none]) dX10_partner_53 (by decide) (fun _ => rfl) (fun x16 => ?_)
    exact am_weak (sxX10_partner_b55 (fxX10_partner_b22 n) ih am_F l0 l1 l2 l3 x13 x14 x15 x16 h12) ⟨rfl, ⟨rfl, ⟨rfl, ⟨rfl, ⟨rfl, ⟨rfl, ⟨rfl, ⟨rfl, trivial⟩⟩⟩⟩⟩⟩⟩⟩ (Nat.le_refl _) (Nat.le_refl _)
def fxX10_partner (l0 : Option Nat) (l1 : Int32) (h : am_H) : Option (Int32 × am_H) := am_gd (am_ob h l0 10) (am_bd (fxX10_isGlove l0 l1 h) (fun r1 h2 => if r1 = 0 then (some ((-1000000001 : Int32), h2)) else (am_gd (am_ob h2 l0 10) (am_bd (fxX10_findBests l0 h2) (fun _ h3 => am_gd (am_ob h3 l0 10) (am_bd (fxX10_all l0 h3) (fun r4 h5 => am_lt r4 (fun x6 => am_lt (-1 : Int32) (fun x7 => fxX10_partner_b22 am_F l0 l1 x6 x7 h5)))))))))
set_option maxRecDepth 100000 in
theorem sxX10_partner {xs : List Int32} (l0 : Option Nat) (l1 : Int32) (h : am_H) : am_Sm xs am_ci mX10_partner 4 0 0 0 [some (am_R l0), some (am_I l1), none, none, none, none, none, none, none] [] h (fxX10_partner l0 l1 h) := by
  unfold fxX10_partner
  refine am_aload_n dX10_partner_0 rfl ?_
  refine am_iload_n dX10_partner_1 rfl ?_
  refine am_callV (cvj := am_ci) (mtj := mX10_isGlove) (dj := 1) (nj := 1) (rcj := 0) (rsj := 0) (rc' := 0) (rs' := 0) (ci := 10) (st' := fun a9 => (am_I a9 :: [])) ⟨_, rfl, rfl⟩ [am_I l1] [] dX10_partner_2 okX10_isGlove lk_RX10_103 (fun zA zH zE => txX10_isGlove l0 l1 h zA zH zE) rfl (fun _ => rfl) (by decide) rfl (Nat.le_of_ble_eq_true rfl) (by decide) (by decide) (fun r1 h2 => ?_)
  refine am_if_ne (tgt := 11) dX10_partner_5 (by decide) (fun c8 => ?_) (fun c8 => ?_)
  · refine am_aload_n dX10_partner_11 rfl ?_
    refine am_callV (cvj := am_cu) (mtj := mX10_findBests) (dj := 3) (nj := 0) (rcj := 0) (rsj := 0) (rc' := 0) (rs' := 0) (ci := 10) (st' := fun _ => []) ⟨_, rfl, rfl⟩ [] [] dX10_partner_12 okX10_findBests lk_RX10_155 (fun zA zH zE => txX10_findBests l0 h2 zA zH zE) rfl (fun _ => rfl) (by decide) rfl (Nat.le_of_ble_eq_true rfl) (by decide) (by decide) (fun _ h3 => ?_)
    refine am_aload_n dX10_partner_15 rfl ?_
    refine am_callV (cvj := am_ci) (mtj := mX10_all) (dj := 0) (nj := 0) (rcj := 0) (rsj := 0) (rc' := 0) (rs' := 0) (ci := 10) (st' := fun a9 => (am_I a9 :: [])) ⟨_, rfl, rfl⟩ [] [] dX10_partner_16 okX10_all lk_RX10_152 (fun zA zH zE => txX10_all l0 h3 zA zH zE) rfl (fun _ => rfl) (by decide) rfl (Nat.le_of_ble_eq_true rfl) (by decide) (by decide) (fun r4 h5 => ?_)
    refine am_istore_n (LL := fun y9 => [some (am_R l0), some (am_I l1), some (am_I y9), none, none, none, none, none, none]) dX10_partner_19 (by decide) (fun _ => rfl) (fun x6 => ?_)
    refine am_iconst (v := (-1)) dX10_partner_20 (by decide) ?_
    refine am_istore_n (LL := fun y9 => [some (am_R l0), some (am_I l1), some (am_I x6), some (am_I y9), none, none, none, none, none]) dX10_partner_21 (by decide) (fun _ => rfl) (fun x7 => ?_)
    exact am_weak (sxX10_partner_b22 am_F l0 l1 x6 x7 h5) ⟨rfl, ⟨rfl, ⟨rfl, ⟨rfl, trivial⟩⟩⟩⟩ (Nat.le_refl _) (Nat.le_refl _)
  refine am_ldc (v := (-1000000001)) dX10_partner_8 wd1060 ?_
  exact am_iret dX10_partner_10 rfl rfl
theorem txX10_partner {xs : List Int32} (l0 : Option Nat) (l1 : Int32) (h : am_H) (a : Int32) (h2 : am_H) (e : fxX10_partner l0 l1 h = some (a, h2)) : am_Ct xs mX10_partner 4 0 0 [am_R l0, am_I l1] h (fun v h3 => v = am_ci a ∧ h3 = h2) := am_meth okX10_partner (Nat.le_of_ble_eq_true rfl) rfl (sxX10_partner l0 l1 h) e
theorem dX10_adds_0 : am_at cX10_adds 0 (.aload_n 0) 1 1 := by decide +kernel
theorem dX10_adds_1 : am_at cX10_adds 1 (.iload_n 1) 1 2 := by decide +kernel
theorem dX10_adds_2 : am_at cX10_adds 2 (.invokevirtual 103) 3 5 := by decide +kernel
theorem dX10_adds_5 : am_at cX10_adds 5 (.ifCond .ne 6) 3 8 := by decide +kernel
theorem dX10_adds_8 : am_at cX10_adds 8 (.ldc 93) 2 10 := by decide +kernel
theorem dX10_adds_10 : am_at cX10_adds 10 (.ireturn) 1 11 := by decide +kernel
theorem dX10_adds_11 : am_at cX10_adds 11 (.aload_n 0) 1 12 := by decide +kernel
theorem dX10_adds_12 : am_at cX10_adds 12 (.invokevirtual 155) 3 15 := by decide +kernel
theorem dX10_adds_15 : am_at cX10_adds 15 (.aload_n 0) 1 16 := by decide +kernel
theorem dX10_adds_16 : am_at cX10_adds 16 (.getfield 22) 3 19 := by decide +kernel
theorem dX10_adds_19 : am_at cX10_adds 19 (.aload_n 0) 1 20 := by decide +kernel
theorem dX10_adds_20 : am_at cX10_adds 20 (.invokevirtual 152) 3 23 := by decide +kernel
theorem dX10_adds_23 : am_at cX10_adds 23 (.iaload) 1 24 := by decide +kernel
theorem dX10_adds_24 : am_at cX10_adds 24 (.aload_n 0) 1 25 := by decide +kernel
theorem dX10_adds_25 : am_at cX10_adds 25 (.getfield 22) 3 28 := by decide +kernel
theorem dX10_adds_28 : am_at cX10_adds 28 (.aload_n 0) 1 29 := by decide +kernel
theorem dX10_adds_29 : am_at cX10_adds 29 (.invokevirtual 152) 3 32 := by decide +kernel
theorem dX10_adds_32 : am_at cX10_adds 32 (.iconst 1) 1 33 := by decide +kernel
theorem dX10_adds_33 : am_at cX10_adds 33 (.iload_n 1) 1 34 := by decide +kernel
theorem dX10_adds_34 : am_at cX10_adds 34 (.ishl) 1 35 := by decide +kernel
theorem dX10_adds_35 : am_at cX10_adds 35 (.iconst (-1)) 1 36 := by decide +kernel
theorem dX10_adds_36 : am_at cX10_adds 36 (.ixor) 1 37 := by decide +kernel
theorem dX10_adds_37 : am_at cX10_adds 37 (.iand) 1 38 := by decide +kernel
theorem dX10_adds_38 : am_at cX10_adds 38 (.iaload) 1 39 := by decide +kernel
theorem dX10_adds_39 : am_at cX10_adds 39 (.isub) 1 40 := by decide +kernel
theorem dX10_adds_40 : am_at cX10_adds 40 (.ireturn) 1 41 := by decide +kernel
def fxX10_adds (l0 : Option Nat) (l1 : Int32) (h : am_H) : Option (Int32 × am_H) := am_gd (am_ob h l0 10) (am_bd (fxX10_isGlove l0 l1 h) (fun r1 h2 => if r1 = 0 then (some ((-1000000001 : Int32), h2)) else (am_gd (am_ob h2 l0 10) (am_bd (fxX10_findBests l0 h2) (fun _ h3 => am_gd (am_ob h3 l0 10) (am_gd (am_ob h3 l0 10) (am_bd (fxX10_all l0 h3) (fun r4 h5 => am_gd (am_ix h5 (am_gr h3 l0 5) 0 r4) (am_gd (am_ob h5 l0 10) (am_gd (am_ob h5 l0 10) (am_bd (fxX10_all l0 h5) (fun r6 h7 => am_gd (am_ix h7 (am_gr h5 l0 5) 0 (r6 &&& (((1 : Int32) <<< (l1 &&& 31)) ^^^ (-1 : Int32)))) (some (((am_gi h5 (am_gr h3 l0 5) r4.toNatClampNeg) - (am_gi h7 (am_gr h5 l0 5) (r6 &&& (((1 : Int32) <<< (l1 &&& 31)) ^^^ (-1 : Int32))).toNatClampNeg)), h7))))))))))))))
set_option maxRecDepth 100000 in
theorem sxX10_adds {xs : List Int32} (l0 : Option Nat) (l1 : Int32) (h : am_H) : am_Sm xs am_ci mX10_adds 4 0 0 0 [some (am_R l0), some (am_I l1)] [] h (fxX10_adds l0 l1 h) := by
  unfold fxX10_adds
  refine am_aload_n dX10_adds_0 rfl ?_
  refine am_iload_n dX10_adds_1 rfl ?_
  refine am_callV (cvj := am_ci) (mtj := mX10_isGlove) (dj := 1) (nj := 1) (rcj := 0) (rsj := 0) (rc' := 0) (rs' := 0) (ci := 10) (st' := fun a9 => (am_I a9 :: [])) ⟨_, rfl, rfl⟩ [am_I l1] [] dX10_adds_2 okX10_isGlove lk_RX10_103 (fun zA zH zE => txX10_isGlove l0 l1 h zA zH zE) rfl (fun _ => rfl) (by decide) rfl (Nat.le_of_ble_eq_true rfl) (by decide) (by decide) (fun r1 h2 => ?_)
  refine am_if_ne (tgt := 11) dX10_adds_5 (by decide) (fun c8 => ?_) (fun c8 => ?_)
  · refine am_aload_n dX10_adds_11 rfl ?_
    refine am_callV (cvj := am_cu) (mtj := mX10_findBests) (dj := 3) (nj := 0) (rcj := 0) (rsj := 0) (rc' := 0) (rs' := 0) (ci := 10) (st' := fun _ => []) ⟨_, rfl, rfl⟩ [] [] dX10_adds_12 okX10_findBests lk_RX10_155 (fun zA zH zE => txX10_findBests l0 h2 zA zH zE) rfl (fun _ => rfl) (by decide) rfl (Nat.le_of_ble_eq_true rfl) (by decide) (by decide) (fun _ h3 => ?_)
    refine am_aload_n dX10_adds_15 rfl ?_
    refine am_getR dX10_adds_16 fk_RX10_22 rfl ?_
    refine am_aload_n dX10_adds_19 rfl ?_
    refine am_callV (cvj := am_ci) (mtj := mX10_all) (dj := 0) (nj := 0) (rcj := 0) (rsj := 0) (rc' := 0) (rs' := 0) (ci := 10) (st' := fun a9 => (am_I a9 :: [am_R (am_gr h3 l0 5)])) ⟨_, rfl, rfl⟩ [] [am_R (am_gr h3 l0 5)] dX10_adds_20 okX10_all lk_RX10_152 (fun zA zH zE => txX10_all l0 h3 zA zH zE) rfl (fun _ => rfl) (by decide) rfl (Nat.le_of_ble_eq_true rfl) (by decide) (by decide) (fun r4 h5 => ?_)
    refine am_iald dX10_adds_23 ?_
    refine am_aload_n dX10_adds_24 rfl ?_
    refine am_getR dX10_adds_25 fk_RX10_22 rfl ?_
    refine am_aload_n dX10_adds_28 rfl ?_
    refine am_callV (cvj := am_ci) (mtj := mX10_all) (dj := 0) (nj := 0) (rcj := 0) (rsj := 0) (rc' := 0) (rs' := 0) (ci := 10) (st' := fun a9 => (am_I a9 :: [am_R (am_gr h5 l0 5), am_I (am_gi h5 (am_gr h3 l0 5) r4.toNatClampNeg)])) ⟨_, rfl, rfl⟩ [] [am_R (am_gr h5 l0 5), am_I (am_gi h5 (am_gr h3 l0 5) r4.toNatClampNeg)] dX10_adds_29 okX10_all lk_RX10_152 (fun zA zH zE => txX10_all l0 h5 zA zH zE) rfl (fun _ => rfl) (by decide) rfl (Nat.le_of_ble_eq_true rfl) (by decide) (by decide) (fun r6 h7 => ?_)
    refine am_iconst (v := 1) dX10_adds_32 (by decide) ?_
    refine am_iload_n dX10_adds_33 rfl ?_
    refine am_ishl dX10_adds_34 ?_
    refine am_iconst (v := (-1)) dX10_adds_35 (by decide) ?_
    refine am_ixor dX10_adds_36 ?_
    refine am_iand dX10_adds_37 ?_
    refine am_iald dX10_adds_38 ?_
    refine am_isub dX10_adds_39 ?_
    exact am_iret dX10_adds_40 rfl rfl
  refine am_ldc (v := (-1000000001)) dX10_adds_8 wd1060 ?_
  exact am_iret dX10_adds_10 rfl rfl
theorem txX10_adds {xs : List Int32} (l0 : Option Nat) (l1 : Int32) (h : am_H) (a : Int32) (h2 : am_H) (e : fxX10_adds l0 l1 h = some (a, h2)) : am_Ct xs mX10_adds 4 0 0 [am_R l0, am_I l1] h (fun v h3 => v = am_ci a ∧ h3 = h2) := am_meth okX10_adds (Nat.le_of_ble_eq_true rfl) rfl (sxX10_adds l0 l1 h) e
theorem dX10_isTold_0 : am_at cX10_isTold 0 (.iload_n 2) 1 1 := by decide +kernel
theorem dX10_isTold_1 : am_at cX10_isTold 1 (.aload_n 0) 1 2 := by decide +kernel
theorem dX10_isTold_2 : am_at cX10_isTold 2 (.getfield 60) 3 5 := by decide +kernel
theorem dX10_isTold_5 : am_at cX10_isTold 5 (.iload_n 1) 1 6 := by decide +kernel
theorem dX10_isTold_6 : am_at cX10_isTold 6 (.iaload) 1 7 := by decide +kernel
theorem dX10_isTold_7 : am_at cX10_isTold 7 (.if_icmp .ge 22) 3 10 := by decide +kernel
theorem dX10_isTold_10 : am_at cX10_isTold 10 (.aload_n 0) 1 11 := by decide +kernel
theorem dX10_isTold_11 : am_at cX10_isTold 11 (.getfield 63) 3 14 := by decide +kernel
theorem dX10_isTold_14 : am_at cX10_isTold 14 (.bipush 24) 2 16 := by decide +kernel
theorem dX10_isTold_16 : am_at cX10_isTold 16 (.iload_n 1) 1 17 := by decide +kernel
theorem dX10_isTold_17 : am_at cX10_isTold 17 (.imul) 1 18 := by decide +kernel
theorem dX10_isTold_18 : am_at cX10_isTold 18 (.iload_n 2) 1 19 := by decide +kernel
theorem dX10_isTold_19 : am_at cX10_isTold 19 (.iadd) 1 20 := by decide +kernel
theorem dX10_isTold_20 : am_at cX10_isTold 20 (.iaload) 1 21 := by decide +kernel
theorem dX10_isTold_21 : am_at cX10_isTold 21 (.iload_n 3) 1 22 := by decide +kernel
theorem dX10_isTold_22 : am_at cX10_isTold 22 (.if_icmp .ne 7) 3 25 := by decide +kernel
theorem dX10_isTold_25 : am_at cX10_isTold 25 (.iconst 1) 1 26 := by decide +kernel
theorem dX10_isTold_26 : am_at cX10_isTold 26 (.goto 4) 3 29 := by decide +kernel
theorem dX10_isTold_29 : am_at cX10_isTold 29 (.iconst 0) 1 30 := by decide +kernel
theorem dX10_isTold_30 : am_at cX10_isTold 30 (.ireturn) 1 31 := by decide +kernel
def fxX10_isTold (l0 : Option Nat) (l1 : Int32) (l2 : Int32) (l3 : Int32) (h : am_H) : Option (Int32 × am_H) := am_gd (am_ob h l0 10) (am_gd (am_ix h (am_gr h l0 27) 0 l1) (if (am_gi h (am_gr h l0 27) l1.toNatClampNeg) ≤ l2 then (am_gd (am_bz (0 : Int32)) (some ((0 : Int32), h))) else (am_gd (am_ob h l0 10) (am_gd (am_ix h (am_gr h l0 28) 0 (((24 : Int32) * l1) + l2)) (if (am_gi h (am_gr h l0 28) (((24 : Int32) * l1) + l2).toNatClampNeg) = l3 then (am_gd (am_bz (1 : Int32)) (some ((1 : Int32), h))) else (am_gd (am_bz (0 : Int32)) (some ((0 : Int32), h))))))))
set_option maxRecDepth 100000 in
theorem sxX10_isTold {xs : List Int32} (l0 : Option Nat) (l1 : Int32) (l2 : Int32) (l3 : Int32) (h : am_H) : am_Sm xs am_ci mX10_isTold 0 0 0 0 [some (am_R l0), some (am_I l1), some (am_I l2), some (am_I l3)] [] h (fxX10_isTold l0 l1 l2 l3 h) := by
  unfold fxX10_isTold
  refine am_iload_n dX10_isTold_0 rfl ?_
  refine am_aload_n dX10_isTold_1 rfl ?_
  refine am_getR dX10_isTold_2 fk_RX10_60 rfl ?_
  refine am_iload_n dX10_isTold_5 rfl ?_
  refine am_iald dX10_isTold_6 ?_
  refine am_icmp_ge (tgt := 29) dX10_isTold_7 (by decide) (fun c2 => ?_) (fun c2 => ?_)
  · refine am_iconst (v := 0) dX10_isTold_29 (by decide) ?_
    exact am_zret dX10_isTold_30 rfl rfl
  refine am_aload_n dX10_isTold_10 rfl ?_
  refine am_getR dX10_isTold_11 fk_RX10_63 rfl ?_
  refine am_bipush (v := 24) dX10_isTold_14 (by decide) ?_
  refine am_iload_n dX10_isTold_16 rfl ?_
  refine am_imul dX10_isTold_17 ?_
  refine am_iload_n dX10_isTold_18 rfl ?_
  refine am_iadd dX10_isTold_19 ?_
  refine am_iald dX10_isTold_20 ?_
  refine am_iload_n dX10_isTold_21 rfl ?_
  refine am_icmp_ne (tgt := 29) dX10_isTold_22 (by decide) (fun c1 => ?_) (fun c1 => ?_)
  · refine am_iconst (v := 0) dX10_isTold_29 (by decide) ?_
    exact am_zret dX10_isTold_30 rfl rfl
  refine am_iconst (v := 1) dX10_isTold_25 (by decide) ?_
  refine am_goto (tgt := 30) dX10_isTold_26 (by decide) ?_
  exact am_zret dX10_isTold_30 rfl rfl
theorem txX10_isTold {xs : List Int32} (l0 : Option Nat) (l1 : Int32) (l2 : Int32) (l3 : Int32) (h : am_H) (a : Int32) (h2 : am_H) (e : fxX10_isTold l0 l1 l2 l3 h = some (a, h2)) : am_Ct xs mX10_isTold 0 0 0 [am_R l0, am_I l1, am_I l2, am_I l3] h (fun v h3 => v = am_ci a ∧ h3 = h2) := am_meth okX10_isTold (Nat.le_of_ble_eq_true rfl) rfl (sxX10_isTold l0 l1 l2 l3 h) e
theorem dX10_arePartners_0 : am_at cX10_arePartners 0 (.aload_n 0) 1 1 := by decide +kernel
theorem dX10_arePartners_1 : am_at cX10_arePartners 1 (.getfield 19) 3 4 := by decide +kernel
theorem dX10_arePartners_4 : am_at cX10_arePartners 4 (.bipush 10) 2 6 := by decide +kernel
theorem dX10_arePartners_6 : am_at cX10_arePartners 6 (.iload_n 2) 1 7 := by decide +kernel
theorem dX10_arePartners_7 : am_at cX10_arePartners 7 (.imul) 1 8 := by decide +kernel
theorem dX10_arePartners_8 : am_at cX10_arePartners 8 (.iload_n 3) 1 9 := by decide +kernel
theorem dX10_arePartners_9 : am_at cX10_arePartners 9 (.iadd) 1 10 := by decide +kernel
theorem dX10_arePartners_10 : am_at cX10_arePartners 10 (.iaload) 1 11 := by decide +kernel
theorem dX10_arePartners_11 : am_at cX10_arePartners 11 (.ifCond .lt 27) 3 14 := by decide +kernel
theorem dX10_arePartners_14 : am_at cX10_arePartners 14 (.aload_n 0) 1 15 := by decide +kernel
theorem dX10_arePartners_15 : am_at cX10_arePartners 15 (.iload_n 1) 1 16 := by decide +kernel
theorem dX10_arePartners_16 : am_at cX10_arePartners 16 (.iload_n 2) 1 17 := by decide +kernel
theorem dX10_arePartners_17 : am_at cX10_arePartners 17 (.iload_n 3) 1 18 := by decide +kernel
theorem dX10_arePartners_18 : am_at cX10_arePartners 18 (.invokevirtual 161) 3 21 := by decide +kernel
theorem dX10_arePartners_21 : am_at cX10_arePartners 21 (.ifCond .eq 17) 3 24 := by decide +kernel
theorem dX10_arePartners_24 : am_at cX10_arePartners 24 (.aload_n 0) 1 25 := by decide +kernel
theorem dX10_arePartners_25 : am_at cX10_arePartners 25 (.iload_n 1) 1 26 := by decide +kernel
theorem dX10_arePartners_26 : am_at cX10_arePartners 26 (.iload_n 3) 1 27 := by decide +kernel
theorem dX10_arePartners_27 : am_at cX10_arePartners 27 (.iload_n 2) 1 28 := by decide +kernel
theorem dX10_arePartners_28 : am_at cX10_arePartners 28 (.invokevirtual 161) 3 31 := by decide +kernel
theorem dX10_arePartners_31 : am_at cX10_arePartners 31 (.ifCond .eq 7) 3 34 := by decide +kernel
theorem dX10_arePartners_34 : am_at cX10_arePartners 34 (.iconst 1) 1 35 := by decide +kernel
theorem dX10_arePartners_35 : am_at cX10_arePartners 35 (.goto 4) 3 38 := by decide +kernel
theorem dX10_arePartners_38 : am_at cX10_arePartners 38 (.iconst 0) 1 39 := by decide +kernel
theorem dX10_arePartners_39 : am_at cX10_arePartners 39 (.ireturn) 1 40 := by decide +kernel
def fxX10_arePartners (l0 : Option Nat) (l1 : Int32) (l2 : Int32) (l3 : Int32) (h : am_H) : Option (Int32 × am_H) := am_gd (am_ob h l0 10) (am_gd (am_ix h (am_gr h l0 4) 0 (((10 : Int32) * l2) + l3)) (if (am_gi h (am_gr h l0 4) (((10 : Int32) * l2) + l3).toNatClampNeg) < 0 then (am_gd (am_bz (0 : Int32)) (some ((0 : Int32), h))) else (am_gd (am_ob h l0 10) (am_bd (fxX10_isTold l0 l1 l2 l3 h) (fun r1 h2 => if r1 = 0 then (am_gd (am_bz (0 : Int32)) (some ((0 : Int32), h2))) else (am_gd (am_ob h2 l0 10) (am_bd (fxX10_isTold l0 l1 l3 l2 h2) (fun r3 h4 => if r3 = 0 then (am_gd (am_bz (0 : Int32)) (some ((0 : Int32), h4))) else (am_gd (am_bz (1 : Int32)) (some ((1 : Int32), h4)))))))))))
set_option maxRecDepth 100000 in
theorem sxX10_arePartners {xs : List Int32} (l0 : Option Nat) (l1 : Int32) (l2 : Int32) (l3 : Int32) (h : am_H) : am_Sm xs am_ci mX10_arePartners 1 0 0 0 [some (am_R l0), some (am_I l1), some (am_I l2), some (am_I l3)] [] h (fxX10_arePartners l0 l1 l2 l3 h) := by
  unfold fxX10_arePartners
  refine am_aload_n dX10_arePartners_0 rfl ?_
  refine am_getR dX10_arePartners_1 fk_RX10_19 rfl ?_
  refine am_bipush (v := 10) dX10_arePartners_4 (by decide) ?_
  refine am_iload_n dX10_arePartners_6 rfl ?_
  refine am_imul dX10_arePartners_7 ?_
  refine am_iload_n dX10_arePartners_8 rfl ?_
  refine am_iadd dX10_arePartners_9 ?_
  refine am_iald dX10_arePartners_10 ?_
  refine am_if_lt (tgt := 38) dX10_arePartners_11 (by decide) (fun c7 => ?_) (fun c7 => ?_)
  · refine am_iconst (v := 0) dX10_arePartners_38 (by decide) ?_
    exact am_zret dX10_arePartners_39 rfl rfl
  refine am_aload_n dX10_arePartners_14 rfl ?_
  refine am_iload_n dX10_arePartners_15 rfl ?_
  refine am_iload_n dX10_arePartners_16 rfl ?_
  refine am_iload_n dX10_arePartners_17 rfl ?_
  refine am_callV (cvj := am_ci) (mtj := mX10_isTold) (dj := 0) (nj := 3) (rcj := 0) (rsj := 0) (rc' := 0) (rs' := 0) (ci := 10) (st' := fun a9 => (am_I a9 :: [])) ⟨_, rfl, rfl⟩ [am_I l1, am_I l2, am_I l3] [] dX10_arePartners_18 okX10_isTold lk_RX10_161 (fun zA zH zE => txX10_isTold l0 l1 l2 l3 h zA zH zE) rfl (fun _ => rfl) (by decide) rfl (Nat.le_of_ble_eq_true rfl) (by decide) (by decide) (fun r1 h2 => ?_)
  refine am_if_eq (tgt := 38) dX10_arePartners_21 (by decide) (fun c6 => ?_) (fun c6 => ?_)
  · refine am_iconst (v := 0) dX10_arePartners_38 (by decide) ?_
    exact am_zret dX10_arePartners_39 rfl rfl
  refine am_aload_n dX10_arePartners_24 rfl ?_
  refine am_iload_n dX10_arePartners_25 rfl ?_
  refine am_iload_n dX10_arePartners_26 rfl ?_
  refine am_iload_n dX10_arePartners_27 rfl ?_
  refine am_callV (cvj := am_ci) (mtj := mX10_isTold) (dj := 0) (nj := 3) (rcj := 0) (rsj := 0) (rc' := 0) (rs' := 0) (ci := 10) (st' := fun a9 => (am_I a9 :: [])) ⟨_, rfl, rfl⟩ [am_I l1, am_I l3, am_I l2] [] dX10_arePartners_28 okX10_isTold lk_RX10_161 (fun zA zH zE => txX10_isTold l0 l1 l3 l2 h2 zA zH zE) rfl (fun _ => rfl) (by decide) rfl (Nat.le_of_ble_eq_true rfl) (by decide) (by decide) (fun r3 h4 => ?_)
  refine am_if_eq (tgt := 38) dX10_arePartners_31 (by decide) (fun c5 => ?_) (fun c5 => ?_)
  · refine am_iconst (v := 0) dX10_arePartners_38 (by decide) ?_
    exact am_zret dX10_arePartners_39 rfl rfl
  refine am_iconst (v := 1) dX10_arePartners_34 (by decide) ?_
  refine am_goto (tgt := 39) dX10_arePartners_35 (by decide) ?_
  exact am_zret dX10_arePartners_39 rfl rfl
theorem txX10_arePartners {xs : List Int32} (l0 : Option Nat) (l1 : Int32) (l2 : Int32) (l3 : Int32) (h : am_H) (a : Int32) (h2 : am_H) (e : fxX10_arePartners l0 l1 l2 l3 h = some (a, h2)) : am_Ct xs mX10_arePartners 1 0 0 [am_R l0, am_I l1, am_I l2, am_I l3] h (fun v h3 => v = am_ci a ∧ h3 = h2) := am_meth okX10_arePartners (Nat.le_of_ble_eq_true rfl) rfl (sxX10_arePartners l0 l1 l2 l3 h) e
theorem dX10_hasBy_0 : am_at cX10_hasBy 0 (.iconst 0) 1 1 := by decide +kernel
theorem dX10_hasBy_1 : am_at cX10_hasBy 1 (.istore_n 3) 1 2 := by decide +kernel
theorem dX10_hasBy_2 : am_at cX10_hasBy 2 (.iload_n 3) 1 3 := by decide +kernel
theorem dX10_hasBy_3 : am_at cX10_hasBy 3 (.aload_n 0) 1 4 := by decide +kernel
theorem dX10_hasBy_4 : am_at cX10_hasBy 4 (.getfield 9) 3 7 := by decide +kernel
theorem dX10_hasBy_7 : am_at cX10_hasBy 7 (.iconst 1) 1 8 := by decide +kernel
theorem dX10_hasBy_8 : am_at cX10_hasBy 8 (.iaload) 1 9 := by decide +kernel
theorem dX10_hasBy_9 : am_at cX10_hasBy 9 (.if_icmp .ge 36) 3 12 := by decide +kernel
theorem dX10_hasBy_12 : am_at cX10_hasBy 12 (.iload_n 3) 1 13 := by decide +kernel
theorem dX10_hasBy_13 : am_at cX10_hasBy 13 (.iload_n 2) 1 14 := by decide +kernel
theorem dX10_hasBy_14 : am_at cX10_hasBy 14 (.if_icmp .eq 25) 3 17 := by decide +kernel
theorem dX10_hasBy_17 : am_at cX10_hasBy 17 (.aload_n 0) 1 18 := by decide +kernel
theorem dX10_hasBy_18 : am_at cX10_hasBy 18 (.iload_n 1) 1 19 := by decide +kernel
theorem dX10_hasBy_19 : am_at cX10_hasBy 19 (.iload_n 2) 1 20 := by decide +kernel
theorem dX10_hasBy_20 : am_at cX10_hasBy 20 (.iload_n 3) 1 21 := by decide +kernel
theorem dX10_hasBy_21 : am_at cX10_hasBy 21 (.invokevirtual 164) 3 24 := by decide +kernel
theorem dX10_hasBy_24 : am_at cX10_hasBy 24 (.ifCond .eq 15) 3 27 := by decide +kernel
theorem dX10_hasBy_27 : am_at cX10_hasBy 27 (.aload_n 0) 1 28 := by decide +kernel
theorem dX10_hasBy_28 : am_at cX10_hasBy 28 (.getfield 19) 3 31 := by decide +kernel
theorem dX10_hasBy_31 : am_at cX10_hasBy 31 (.bipush 10) 2 33 := by decide +kernel
theorem dX10_hasBy_33 : am_at cX10_hasBy 33 (.iload_n 2) 1 34 := by decide +kernel
theorem dX10_hasBy_34 : am_at cX10_hasBy 34 (.imul) 1 35 := by decide +kernel
theorem dX10_hasBy_35 : am_at cX10_hasBy 35 (.iload_n 3) 1 36 := by decide +kernel
theorem dX10_hasBy_36 : am_at cX10_hasBy 36 (.iadd) 1 37 := by decide +kernel
theorem dX10_hasBy_37 : am_at cX10_hasBy 37 (.iaload) 1 38 := by decide +kernel
theorem dX10_hasBy_38 : am_at cX10_hasBy 38 (.ireturn) 1 39 := by decide +kernel
theorem dX10_hasBy_39 : am_at cX10_hasBy 39 (.iinc 3 1) 3 42 := by decide +kernel
theorem dX10_hasBy_42 : am_at cX10_hasBy 42 (.goto (-40)) 3 45 := by decide +kernel
theorem dX10_hasBy_45 : am_at cX10_hasBy 45 (.iconst 0) 1 46 := by decide +kernel
theorem dX10_hasBy_46 : am_at cX10_hasBy 46 (.ireturn) 1 47 := by decide +kernel
def fxX10_hasBy_b39 (k2 : Option Nat → Int32 → Int32 → Int32 → am_H → Option (Int32 × am_H)) (l0 : Option Nat) (l1 : Int32) (l2 : Int32) (l3 : Int32) (h : am_H) : Option (Int32 × am_H) := am_lt (l3 + 1) (fun x7 => k2 l0 l1 l2 x7 h)
set_option maxRecDepth 100000 in
theorem sxX10_hasBy_b39 {xs : List Int32} (k2 : Option Nat → Int32 → Int32 → Int32 → am_H → Option (Int32 × am_H)) (hk2 : ∀ (l0 : Option Nat) (l1 : Int32) (l2 : Int32) (l3 : Int32) (h : am_H), am_Sm xs am_ci mX10_hasBy 2 0 0 2 [some (am_R l0), some (am_I l1), some (am_I l2), some (am_I l3)] [] h (k2 l0 l1 l2 l3 h)) (l0 : Option Nat) (l1 : Int32) (l2 : Int32) (l3 : Int32) (h : am_H) : am_Sm xs am_ci mX10_hasBy 2 0 0 39 [some (am_R l0), some (am_I l1), some (am_I l2), some (am_I l3)] [] h (fxX10_hasBy_b39 k2 l0 l1 l2 l3 h) := by
  unfold fxX10_hasBy_b39
  refine am_iinc (v := 1) (LL := fun y9 => [some (am_R l0), some (am_I l1), some (am_I l2), some (am_I y9)]) dX10_hasBy_39 (by decide) rfl (by decide) (fun _ => rfl) (fun x7 => ?_)
  refine am_goto (tgt := 2) dX10_hasBy_42 (by decide) ?_
  exact am_weak (hk2 l0 l1 l2 x7 h) ⟨rfl, ⟨rfl, ⟨rfl, ⟨rfl, trivial⟩⟩⟩⟩ (Nat.le_refl _) (Nat.le_refl _)
def fxX10_hasBy_b2 : Nat → Option Nat → Int32 → Int32 → Int32 → am_H → Option (Int32 × am_H)
  | 0, _, _, _, _, _ => none
  | n + 1, l0, l1, l2, l3, h => am_gd (am_ob h l0 10) (am_gd (am_ix h (am_gr h l0 0) 0 (1 : Int32)) (if (am_gi h (am_gr h l0 0) (1 : Int32).toNatClampNeg) ≤ l3 then (some ((0 : Int32), h)) else (if l3 = l2 then (fxX10_hasBy_b39 (fxX10_hasBy_b2 n) l0 l1 l2 l3 h) else (am_gd (am_ob h l0 10) (am_bd (fxX10_arePartners l0 l1 l2 l3 h) (fun r2 h3 => if r2 = 0 then (fxX10_hasBy_b39 (fxX10_hasBy_b2 n) l0 l1 l2 l3 h3) else (am_gd (am_ob h3 l0 10) (am_gd (am_ix h3 (am_gr h3 l0 4) 0 (((10 : Int32) * l2) + l3)) (some ((am_gi h3 (am_gr h3 l0 4) (((10 : Int32) * l2) + l3).toNatClampNeg), h3))))))))))
set_option maxRecDepth 100000 in
theorem sxX10_hasBy_b2 {xs : List Int32} : ∀ (n : Nat) (l0 : Option Nat) (l1 : Int32) (l2 : Int32) (l3 : Int32) (h : am_H), am_Sm xs am_ci mX10_hasBy 2 0 0 2 [some (am_R l0), some (am_I l1), some (am_I l2), some (am_I l3)] [] h (fxX10_hasBy_b2 n l0 l1 l2 l3 h) := by
  intro n
  induction n with
  | zero => intros; exact am_none
  | succ n ih =>
    intro l0 l1 l2 l3 h
    rw [fxX10_hasBy_b2]
    refine am_iload_n dX10_hasBy_2 rfl ?_
    refine am_aload_n dX10_hasBy_3 rfl ?_
    refine am_getR dX10_hasBy_4 fk_RX10_9 rfl ?_
    refine am_iconst (v := 1) dX10_hasBy_7 (by decide) ?_
    refine am_iald dX10_hasBy_8 ?_
    refine am_icmp_ge (tgt := 45) dX10_hasBy_9 (by decide) (fun c6 => ?_) (fun c6 => ?_)
    · refine am_iconst (v := 0) dX10_hasBy_45 (by decide) ?_
      exact am_iret dX10_hasBy_46 rfl rfl
    refine am_iload_n dX10_hasBy_12 rfl ?_
    refine am_iload_n dX10_hasBy_13 rfl ?_
    refine am_icmp_eq (tgt := 39) dX10_hasBy_14 (by decide) (fun c5 => ?_) (fun c5 => ?_)
    · exact am_weak (sxX10_hasBy_b39 (fxX10_hasBy_b2 n) ih l0 l1 l2 l3 h) ⟨rfl, ⟨rfl, ⟨rfl, ⟨rfl, trivial⟩⟩⟩⟩ (Nat.le_refl _) (Nat.le_refl _)
    refine am_aload_n dX10_hasBy_17 rfl ?_
    refine am_iload_n dX10_hasBy_18 rfl ?_
    refine am_iload_n dX10_hasBy_19 rfl ?_
    refine am_iload_n dX10_hasBy_20 rfl ?_
    refine am_callV (cvj := am_ci) (mtj := mX10_arePartners) (dj := 1) (nj := 3) (rcj := 0) (rsj := 0) (rc' := 0) (rs' := 0) (ci := 10) (st' := fun a9 => (am_I a9 :: [])) ⟨_, rfl, rfl⟩ [am_I l1, am_I l2, am_I l3] [] dX10_hasBy_21 okX10_arePartners lk_RX10_164 (fun zA zH zE => txX10_arePartners l0 l1 l2 l3 h zA zH zE) rfl (fun _ => rfl) (by decide) rfl (Nat.le_of_ble_eq_true rfl) (by decide) (by decide) (fun r2 h3 => ?_)
    refine am_if_eq (tgt := 39) dX10_hasBy_24 (by decide) (fun c4 => ?_) (fun c4 => ?_)
    · exact am_weak (sxX10_hasBy_b39 (fxX10_hasBy_b2 n) ih l0 l1 l2 l3 h3) ⟨rfl, ⟨rfl, ⟨rfl, ⟨rfl, trivial⟩⟩⟩⟩ (Nat.le_refl _) (Nat.le_refl _)
    refine am_aload_n dX10_hasBy_27 rfl ?_
    refine am_getR dX10_hasBy_28 fk_RX10_19 rfl ?_
    refine am_bipush (v := 10) dX10_hasBy_31 (by decide) ?_
    refine am_iload_n dX10_hasBy_33 rfl ?_
    refine am_imul dX10_hasBy_34 ?_
    refine am_iload_n dX10_hasBy_35 rfl ?_
    refine am_iadd dX10_hasBy_36 ?_
    refine am_iald dX10_hasBy_37 ?_
    exact am_iret dX10_hasBy_38 rfl rfl
def fxX10_hasBy (l0 : Option Nat) (l1 : Int32) (l2 : Int32) (h : am_H) : Option (Int32 × am_H) := am_lt (0 : Int32) (fun x1 => fxX10_hasBy_b2 am_F l0 l1 l2 x1 h)
set_option maxRecDepth 100000 in
theorem sxX10_hasBy {xs : List Int32} (l0 : Option Nat) (l1 : Int32) (l2 : Int32) (h : am_H) : am_Sm xs am_ci mX10_hasBy 2 0 0 0 [some (am_R l0), some (am_I l1), some (am_I l2), none] [] h (fxX10_hasBy l0 l1 l2 h) := by
  unfold fxX10_hasBy
  refine am_iconst (v := 0) dX10_hasBy_0 (by decide) ?_
  refine am_istore_n (LL := fun y9 => [some (am_R l0), some (am_I l1), some (am_I l2), some (am_I y9)]) dX10_hasBy_1 (by decide) (fun _ => rfl) (fun x1 => ?_)
  exact am_weak (sxX10_hasBy_b2 am_F l0 l1 l2 x1 h) ⟨rfl, ⟨rfl, ⟨rfl, ⟨rfl, trivial⟩⟩⟩⟩ (Nat.le_refl _) (Nat.le_refl _)
theorem txX10_hasBy {xs : List Int32} (l0 : Option Nat) (l1 : Int32) (l2 : Int32) (h : am_H) (a : Int32) (h2 : am_H) (e : fxX10_hasBy l0 l1 l2 h = some (a, h2)) : am_Ct xs mX10_hasBy 2 0 0 [am_R l0, am_I l1, am_I l2] h (fun v h3 => v = am_ci a ∧ h3 = h2) := am_meth okX10_hasBy (Nat.le_of_ble_eq_true rfl) rfl (sxX10_hasBy l0 l1 l2 h) e
theorem dX10_isSheet_0 : am_at cX10_isSheet 0 (.iload_n 0) 1 1 := by decide +kernel
theorem dX10_isSheet_1 : am_at cX10_isSheet 1 (.iconst 0) 1 2 := by decide +kernel
theorem dX10_isSheet_2 : am_at cX10_isSheet 2 (.iconst 3) 1 3 := by decide +kernel
theorem dX10_isSheet_3 : am_at cX10_isSheet 3 (.invokestatic 85) 3 6 := by decide +kernel
theorem dX10_isSheet_6 : am_at cX10_isSheet 6 (.ireturn) 1 7 := by decide +kernel
def fxX10_isSheet (l0 : Int32) (h : am_H) : Option (Int32 × am_H) := am_bd (fxX10_in l0 (0 : Int32) (3 : Int32) h) (fun r1 h2 => am_gd (am_bz r1) (some (r1, h2)))
set_option maxRecDepth 100000 in
theorem sxX10_isSheet {xs : List Int32} (l0 : Int32) (h : am_H) : am_Sm xs am_ci mX10_isSheet 1 0 0 0 [some (am_I l0)] [] h (fxX10_isSheet l0 h) := by
  unfold fxX10_isSheet
  refine am_iload_n dX10_isSheet_0 rfl ?_
  refine am_iconst (v := 0) dX10_isSheet_1 (by decide) ?_
  refine am_iconst (v := 3) dX10_isSheet_2 (by decide) ?_
  refine am_callS (cvj := am_ci) (mtj := mX10_in) (dj := 0) (nj := 3) (rcj := 0) (rsj := 0) (rc' := 0) (rs' := 0) (st' := fun a9 => (am_I a9 :: [])) [am_I l0, am_I (0 : Int32), am_I (3 : Int32)] [] dX10_isSheet_3 okX10_in lk_RX10_85 (fun zA zH zE => txX10_in l0 (0 : Int32) (3 : Int32) h zA zH zE) rfl (fun _ => rfl) (by decide) rfl (Nat.le_of_ble_eq_true rfl) (by decide) (by decide) (fun r1 h2 => ?_)
  exact am_zret dX10_isSheet_6 rfl rfl
theorem txX10_isSheet {xs : List Int32} (l0 : Int32) (h : am_H) (a : Int32) (h2 : am_H) (e : fxX10_isSheet l0 h = some (a, h2)) : am_Ct xs mX10_isSheet 1 0 0 [am_I l0] h (fun v h3 => v = am_ci a ∧ h3 = h2) := am_meth okX10_isSheet (Nat.le_of_ble_eq_true rfl) rfl (sxX10_isSheet l0 h) e
theorem dX10_leaves_0 : am_at cX10_leaves 0 (.iload_n 1) 1 1 := by decide +kernel
theorem dX10_leaves_1 : am_at cX10_leaves 1 (.invokestatic 167) 3 4 := by decide +kernel
theorem dX10_leaves_4 : am_at cX10_leaves 4 (.ifCond .ne 6) 3 7 := by decide +kernel
theorem dX10_leaves_7 : am_at cX10_leaves 7 (.ldc 93) 2 9 := by decide +kernel
theorem dX10_leaves_9 : am_at cX10_leaves 9 (.ireturn) 1 10 := by decide +kernel
theorem dX10_leaves_10 : am_at cX10_leaves 10 (.aload_n 0) 1 11 := by decide +kernel
theorem dX10_leaves_11 : am_at cX10_leaves 11 (.getfield 57) 3 14 := by decide +kernel
theorem dX10_leaves_14 : am_at cX10_leaves 14 (.iload_n 1) 1 15 := by decide +kernel
theorem dX10_leaves_15 : am_at cX10_leaves 15 (.iaload) 1 16 := by decide +kernel
theorem dX10_leaves_16 : am_at cX10_leaves 16 (.ifCond .ge 6) 3 19 := by decide +kernel
theorem dX10_leaves_19 : am_at cX10_leaves 19 (.ldc 170) 2 21 := by decide +kernel
theorem dX10_leaves_21 : am_at cX10_leaves 21 (.ireturn) 1 22 := by decide +kernel
theorem dX10_leaves_22 : am_at cX10_leaves 22 (.aload_n 0) 1 23 := by decide +kernel
theorem dX10_leaves_23 : am_at cX10_leaves 23 (.invokevirtual 155) 3 26 := by decide +kernel
theorem dX10_leaves_26 : am_at cX10_leaves 26 (.iconst 0) 1 27 := by decide +kernel
theorem dX10_leaves_27 : am_at cX10_leaves 27 (.istore_n 2) 1 28 := by decide +kernel
theorem dX10_leaves_28 : am_at cX10_leaves 28 (.iload_n 2) 1 29 := by decide +kernel
theorem dX10_leaves_29 : am_at cX10_leaves 29 (.aload_n 0) 1 30 := by decide +kernel
theorem dX10_leaves_30 : am_at cX10_leaves 30 (.getfield 9) 3 33 := by decide +kernel
theorem dX10_leaves_33 : am_at cX10_leaves 33 (.iconst 1) 1 34 := by decide +kernel
theorem dX10_leaves_34 : am_at cX10_leaves 34 (.iaload) 1 35 := by decide +kernel
theorem dX10_leaves_35 : am_at cX10_leaves 35 (.if_icmp .ge 81) 3 38 := by decide +kernel
theorem dX10_leaves_38 : am_at cX10_leaves 38 (.iload_n 2) 1 39 := by decide +kernel
theorem dX10_leaves_39 : am_at cX10_leaves 39 (.iconst 1) 1 40 := by decide +kernel
theorem dX10_leaves_40 : am_at cX10_leaves 40 (.iadd) 1 41 := by decide +kernel
theorem dX10_leaves_41 : am_at cX10_leaves 41 (.istore_n 3) 1 42 := by decide +kernel
theorem dX10_leaves_42 : am_at cX10_leaves 42 (.iload_n 3) 1 43 := by decide +kernel
theorem dX10_leaves_43 : am_at cX10_leaves 43 (.aload_n 0) 1 44 := by decide +kernel
theorem dX10_leaves_44 : am_at cX10_leaves 44 (.getfield 9) 3 47 := by decide +kernel
theorem dX10_leaves_47 : am_at cX10_leaves 47 (.iconst 1) 1 48 := by decide +kernel
theorem dX10_leaves_48 : am_at cX10_leaves 48 (.iaload) 1 49 := by decide +kernel
theorem dX10_leaves_49 : am_at cX10_leaves 49 (.if_icmp .ge 61) 3 52 := by decide +kernel
theorem dX10_leaves_52 : am_at cX10_leaves 52 (.aload_n 0) 1 53 := by decide +kernel
theorem dX10_leaves_53 : am_at cX10_leaves 53 (.getfield 19) 3 56 := by decide +kernel
theorem dX10_leaves_56 : am_at cX10_leaves 56 (.bipush 10) 2 58 := by decide +kernel
theorem dX10_leaves_58 : am_at cX10_leaves 58 (.iload_n 2) 1 59 := by decide +kernel
theorem dX10_leaves_59 : am_at cX10_leaves 59 (.imul) 1 60 := by decide +kernel
theorem dX10_leaves_60 : am_at cX10_leaves 60 (.iload_n 3) 1 61 := by decide +kernel
theorem dX10_leaves_61 : am_at cX10_leaves 61 (.iadd) 1 62 := by decide +kernel
theorem dX10_leaves_62 : am_at cX10_leaves 62 (.iaload) 1 63 := by decide +kernel
theorem dX10_leaves_63 : am_at cX10_leaves 63 (.istore 4) 2 65 := by decide +kernel
theorem dX10_leaves_65 : am_at cX10_leaves 65 (.iload 4) 2 67 := by decide +kernel
theorem dX10_leaves_67 : am_at cX10_leaves 67 (.aload_n 0) 1 68 := by decide +kernel
theorem dX10_leaves_68 : am_at cX10_leaves 68 (.iload_n 1) 1 69 := by decide +kernel
theorem dX10_leaves_69 : am_at cX10_leaves 69 (.iload_n 2) 1 70 := by decide +kernel
theorem dX10_leaves_70 : am_at cX10_leaves 70 (.invokevirtual 171) 3 73 := by decide +kernel
theorem dX10_leaves_73 : am_at cX10_leaves 73 (.if_icmp .le 31) 3 76 := by decide +kernel
theorem dX10_leaves_76 : am_at cX10_leaves 76 (.iload 4) 2 78 := by decide +kernel
theorem dX10_leaves_78 : am_at cX10_leaves 78 (.aload_n 0) 1 79 := by decide +kernel
theorem dX10_leaves_79 : am_at cX10_leaves 79 (.iload_n 1) 1 80 := by decide +kernel
theorem dX10_leaves_80 : am_at cX10_leaves 80 (.iload_n 3) 1 81 := by decide +kernel
theorem dX10_leaves_81 : am_at cX10_leaves 81 (.invokevirtual 171) 3 84 := by decide +kernel
theorem dX10_leaves_84 : am_at cX10_leaves 84 (.if_icmp .le 20) 3 87 := by decide +kernel
theorem dX10_leaves_87 : am_at cX10_leaves 87 (.aload_n 0) 1 88 := by decide +kernel
theorem dX10_leaves_88 : am_at cX10_leaves 88 (.iload_n 1) 1 89 := by decide +kernel
theorem dX10_leaves_89 : am_at cX10_leaves 89 (.iload_n 2) 1 90 := by decide +kernel
theorem dX10_leaves_90 : am_at cX10_leaves 90 (.iload_n 3) 1 91 := by decide +kernel
theorem dX10_leaves_91 : am_at cX10_leaves 91 (.invokevirtual 164) 3 94 := by decide +kernel
theorem dX10_leaves_94 : am_at cX10_leaves 94 (.ifCond .ne 10) 3 97 := by decide +kernel
theorem dX10_leaves_97 : am_at cX10_leaves 97 (.bipush 100) 2 99 := by decide +kernel
theorem dX10_leaves_99 : am_at cX10_leaves 99 (.iload_n 2) 1 100 := by decide +kernel
theorem dX10_leaves_100 : am_at cX10_leaves 100 (.imul) 1 101 := by decide +kernel
theorem dX10_leaves_101 : am_at cX10_leaves 101 (.iload_n 3) 1 102 := by decide +kernel
theorem dX10_leaves_102 : am_at cX10_leaves 102 (.iadd) 1 103 := by decide +kernel
theorem dX10_leaves_103 : am_at cX10_leaves 103 (.ireturn) 1 104 := by decide +kernel
theorem dX10_leaves_104 : am_at cX10_leaves 104 (.iinc 3 1) 3 107 := by decide +kernel
theorem dX10_leaves_107 : am_at cX10_leaves 107 (.goto (-65)) 3 110 := by decide +kernel
theorem dX10_leaves_110 : am_at cX10_leaves 110 (.iinc 2 1) 3 113 := by decide +kernel
theorem dX10_leaves_113 : am_at cX10_leaves 113 (.goto (-85)) 3 116 := by decide +kernel
theorem dX10_leaves_116 : am_at cX10_leaves 116 (.ldc 84) 2 118 := by decide +kernel
theorem dX10_leaves_118 : am_at cX10_leaves 118 (.ireturn) 1 119 := by decide +kernel
def fxX10_leaves_b104 (k28 : Option Nat → Int32 → Int32 → am_H → Option (Int32 × am_H)) (k42 : Option Nat → Int32 → Int32 → Int32 → am_H → Option (Int32 × am_H)) (l0 : Option Nat) (l1 : Int32) (l2 : Int32) (l3 : Int32) (h : am_H) : Option (Int32 × am_H) := am_lt (l3 + 1) (fun x21 => k42 l0 l1 l2 x21 h)
set_option maxRecDepth 100000 in
theorem sxX10_leaves_b104 {xs : List Int32} (k28 : Option Nat → Int32 → Int32 → am_H → Option (Int32 × am_H)) (hk28 : ∀ (l0 : Option Nat) (l1 : Int32) (l2 : Int32) (h : am_H), am_Sm xs am_ci mX10_leaves 4 0 0 28 [some (am_R l0), some (am_I l1), some (am_I l2), none, none] [] h (k28 l0 l1 l2 h)) (k42 : Option Nat → Int32 → Int32 → Int32 → am_H → Option (Int32 × am_H)) (hk42 : ∀ (l0 : Option Nat) (l1 : Int32) (l2 : Int32) (l3 : Int32) (h : am_H), am_Sm xs am_ci mX10_leaves 4 0 0 42 [some (am_R l0), some (am_I l1), some (am_I l2), some (am_I l3), none] [] h (k42 l0 l1 l2 l3 h)) (l0 : Option Nat) (l1 : Int32) (l2 : Int32) (l3 : Int32) (h : am_H) : am_Sm xs am_ci mX10_leaves 4 0 0 104 [some (am_R l0), some (am_I l1), some (am_I l2), some (am_I l3), none] [] h (fxX10_leaves_b104 k28 k42 l0 l1 l2 l3 h) := by
  unfold fxX10_leaves_b104
  refine am_iinc (v := 1) (LL := fun y9 => [some (am_R l0), some (am_I l1), some (am_I l2), some (am_I y9), none]) dX10_leaves_104 (by decide) rfl (by decide) (fun _ => rfl) (fun x21 => ?_)
  refine am_goto (tgt := 42) dX10_leaves_107 (by decide) ?_
  exact am_weak (hk42 l0 l1 l2 x21 h) ⟨rfl, ⟨rfl, ⟨rfl, ⟨rfl, trivial⟩⟩⟩⟩ (Nat.le_refl _) (Nat.le_refl _)
def fxX10_leaves_b42 (k28 : Option Nat → Int32 → Int32 → am_H → Option (Int32 × am_H)) : Nat → Option Nat → Int32 → Int32 → Int32 → am_H → Option (Int32 × am_H)
  | 0, _, _, _, _, _ => none
  | n + 1, l0, l1, l2, l3, h => am_gd (am_ob h l0 10) (am_gd (am_ix h (am_gr h l0 0) 0 (1 : Int32)) (if (am_gi h (am_gr h l0 0) (1 : Int32).toNatClampNeg) ≤ l3 then (am_lt (l2 + 1) (fun x9 => k28 l0 l1 x9 h)) else (am_gd (am_ob h l0 10) (am_gd (am_ix h (am_gr h l0 4) 0 (((10 : Int32) * l2) + l3)) (am_lt (am_gi h (am_gr h l0 4) (((10 : Int32) * l2) + l3).toNatClampNeg) (fun x10 => am_gd (am_ob h l0 10) (am_bd (fxX10_hasBy l0 l1 l2 h) (fun r11 h12 => if x10 ≤ r11 then (fxX10_leaves_b104 k28 (fxX10_leaves_b42 k28 n) l0 l1 l2 l3 h12) else (am_gd (am_ob h12 l0 10) (am_bd (fxX10_hasBy l0 l1 l3 h12) (fun r13 h14 => if x10 ≤ r13 then (fxX10_leaves_b104 k28 (fxX10_leaves_b42 k28 n) l0 l1 l2 l3 h14) else (am_gd (am_ob h14 l0 10) (am_bd (fxX10_arePartners l0 l1 l2 l3 h14) (fun r15 h16 => if r15 = 0 then (some ((((100 : Int32) * l2) + l3), h16)) else (fxX10_leaves_b104 k28 (fxX10_leaves_b42 k28 n) l0 l1 l2 l3 h16)))))))))))))))
set_option maxRecDepth 100000 in
theorem sxX10_leaves_b42 {xs : List Int32} (k28 : Option Nat → Int32 → Int32 → am_H → Option (Int32 × am_H)) (hk28 : ∀ (l0 : Option Nat) (l1 : Int32) (l2 : Int32) (h : am_H), am_Sm xs am_ci mX10_leaves 4 0 0 28 [some (am_R l0), some (am_I l1), some (am_I l2), none, none] [] h (k28 l0 l1 l2 h)) : ∀ (n : Nat) (l0 : Option Nat) (l1 : Int32) (l2 : Int32) (l3 : Int32) (h : am_H), am_Sm xs am_ci mX10_leaves 4 0 0 42 [some (am_R l0), some (am_I l1), some (am_I l2), some (am_I l3), none] [] h (fxX10_leaves_b42 k28 n l0 l1 l2 l3 h) := by
  intro n
  induction n with
  | zero => intros; exact am_none
  | succ n ih =>
    intro l0 l1 l2 l3 h
    rw [fxX10_leaves_b42]
    refine am_iload_n dX10_leaves_42 rfl ?_
    refine am_aload_n dX10_leaves_43 rfl ?_
    refine am_getR dX10_leaves_44 fk_RX10_9 rfl ?_
    refine am_iconst (v := 1) dX10_leaves_47 (by decide) ?_
    refine am_iald dX10_leaves_48 ?_
    refine am_icmp_ge (tgt := 110) dX10_leaves_49 (by decide) (fun c20 => ?_) (fun c20 => ?_)
    · refine am_iinc (v := 1) (LL := fun y9 => [some (am_R l0), some (am_I l1), some (am_I y9), some (am_I l3), none]) dX10_leaves_110 (by decide) rfl (by decide) (fun _ => rfl) (fun x9 => ?_)
      refine am_goto (tgt := 28) dX10_leaves_113 (by decide) ?_
      exact am_weak (hk28 l0 l1 x9 h) ⟨rfl, ⟨rfl, ⟨rfl, trivial⟩⟩⟩ (Nat.le_refl _) (Nat.le_refl _)
    refine am_aload_n dX10_leaves_52 rfl ?_
    refine am_getR dX10_leaves_53 fk_RX10_19 rfl ?_
    refine am_bipush (v := 10) dX10_leaves_56 (by decide) ?_
    refine am_iload_n dX10_leaves_58 rfl ?_
    refine am_imul dX10_leaves_59 ?_
    refine am_iload_n dX10_leaves_60 rfl ?_
    refine am_iadd dX10_leaves_61 ?_
    refine am_iald dX10_leaves_62 ?_
    refine am_istore (LL := fun y9 => [some (am_R l0), some (am_I l1), some (am_I l2), some (am_I l3), some (am_I y9)]) dX10_leaves_63 (by decide) (fun _ => rfl) (fun x10 => ?_)
    refine am_iload dX10_leaves_65 rfl ?_
    refine am_aload_n dX10_leaves_67 rfl ?_
    refine am_iload_n dX10_leaves_68 rfl ?_
    refine am_iload_n dX10_leaves_69 rfl ?_
    refine am_callV (cvj := am_ci) (mtj := mX10_hasBy) (dj := 2) (nj := 2) (rcj := 0) (rsj := 0) (rc' := 0) (rs' := 0) (ci := 10) (st' := fun a9 => (am_I a9 :: [am_I x10])) ⟨_, rfl, rfl⟩ [am_I l1, am_I l2] [am_I x10] dX10_leaves_70 okX10_hasBy lk_RX10_171 (fun zA zH zE => txX10_hasBy l0 l1 l2 h zA zH zE) rfl (fun _ => rfl) (by decide) rfl (Nat.le_of_ble_eq_true rfl) (by decide) (by decide) (fun r11 h12 => ?_)
    refine am_icmp_le (tgt := 104) dX10_leaves_73 (by decide) (fun c19 => ?_) (fun c19 => ?_)
    · exact am_weak (sxX10_leaves_b104 k28 hk28 (fxX10_leaves_b42 k28 n) ih l0 l1 l2 l3 h12) ⟨rfl, ⟨rfl, ⟨rfl, ⟨rfl, trivial⟩⟩⟩⟩ (Nat.le_refl _) (Nat.le_refl _)
    refine am_iload dX10_leaves_76 rfl ?_
    refine am_aload_n dX10_leaves_78 rfl ?_
    refine am_iload_n dX10_leaves_79 rfl ?_
    refine am_iload_n dX10_leaves_80 rfl ?_
    refine am_callV (cvj := am_ci) (mtj := mX10_hasBy) (dj := 2) (nj := 2) (rcj := 0) (rsj := 0) (rc' := 0) (rs' := 0) (ci := 10) (st' := fun a9 => (am_I a9 :: [am_I x10])) ⟨_, rfl, rfl⟩ [am_I l1, am_I l3] [am_I x10] dX10_leaves_81 okX10_hasBy lk_RX10_171 (fun zA zH zE => txX10_hasBy l0 l1 l3 h12 zA zH zE) rfl (fun _ => rfl) (by decide) rfl (Nat.le_of_ble_eq_true rfl) (by decide) (by decide) (fun r13 h14 => ?_)
    refine am_icmp_le (tgt := 104) dX10_leaves_84 (by decide) (fun c18 => ?_) (fun c18 => ?_)
    · exact am_weak (sxX10_leaves_b104 k28 hk28 (fxX10_leaves_b42 k28 n) ih l0 l1 l2 l3 h14) ⟨rfl, ⟨rfl, ⟨rfl, ⟨rfl, trivial⟩⟩⟩⟩ (Nat.le_refl _) (Nat.le_refl _)
    refine am_aload_n dX10_leaves_87 rfl ?_
    refine am_iload_n dX10_leaves_88 rfl ?_
    refine am_iload_n dX10_leaves_89 rfl ?_
    refine am_iload_n dX10_leaves_90 rfl ?_
    refine am_callV (cvj := am_ci) (mtj := mX10_arePartners) (dj := 1) (nj := 3) (rcj := 0) (rsj := 0) (rc' := 0) (rs' := 0) (ci := 10) (st' := fun a9 => (am_I a9 :: [])) ⟨_, rfl, rfl⟩ [am_I l1, am_I l2, am_I l3] [] dX10_leaves_91 okX10_arePartners lk_RX10_164 (fun zA zH zE => txX10_arePartners l0 l1 l2 l3 h14 zA zH zE) rfl (fun _ => rfl) (by decide) rfl (Nat.le_of_ble_eq_true rfl) (by decide) (by decide) (fun r15 h16 => ?_)
    refine am_if_ne (tgt := 104) dX10_leaves_94 (by decide) (fun c17 => ?_) (fun c17 => ?_)
    · exact am_weak (sxX10_leaves_b104 k28 hk28 (fxX10_leaves_b42 k28 n) ih l0 l1 l2 l3 h16) ⟨rfl, ⟨rfl, ⟨rfl, ⟨rfl, trivial⟩⟩⟩⟩ (Nat.le_refl _) (Nat.le_refl _)
    refine am_bipush (v := 100) dX10_leaves_97 (by decide) ?_
    refine am_iload_n dX10_leaves_99 rfl ?_
    refine am_imul dX10_leaves_100 ?_
    refine am_iload_n dX10_leaves_101 rfl ?_
    refine am_iadd dX10_leaves_102 ?_
    exact am_iret dX10_leaves_103 rfl rfl
def fxX10_leaves_b28 : Nat → Option Nat → Int32 → Int32 → am_H → Option (Int32 × am_H)
  | 0, _, _, _, _ => none
  | n + 1, l0, l1, l2, h => am_gd (am_ob h l0 10) (am_gd (am_ix h (am_gr h l0 0) 0 (1 : Int32)) (if (am_gi h (am_gr h l0 0) (1 : Int32).toNatClampNeg) ≤ l2 then (some ((-1000000005 : Int32), h)) else (am_lt (l2 + (1 : Int32)) (fun x7 => fxX10_leaves_b42 (fxX10_leaves_b28 n) am_F l0 l1 l2 x7 h))))
set_option maxRecDepth 100000 in
theorem sxX10_leaves_b28 {xs : List Int32} : ∀ (n : Nat) (l0 : Option Nat) (l1 : Int32) (l2 : Int32) (h : am_H), am_Sm xs am_ci mX10_leaves 4 0 0 28 [some (am_R l0), some (am_I l1), some (am_I l2), none, none] [] h (fxX10_leaves_b28 n l0 l1 l2 h) := by
  intro n
  induction n with
  | zero => intros; exact am_none
  | succ n ih =>
    intro l0 l1 l2 h
    rw [fxX10_leaves_b28]
    refine am_iload_n dX10_leaves_28 rfl ?_
    refine am_aload_n dX10_leaves_29 rfl ?_
    refine am_getR dX10_leaves_30 fk_RX10_9 rfl ?_
    refine am_iconst (v := 1) dX10_leaves_33 (by decide) ?_
    refine am_iald dX10_leaves_34 ?_
    refine am_icmp_ge (tgt := 116) dX10_leaves_35 (by decide) (fun c8 => ?_) (fun c8 => ?_)
    · refine am_ldc (v := (-1000000005)) dX10_leaves_116 wd1143 ?_
      exact am_iret dX10_leaves_118 rfl rfl
    refine am_iload_n dX10_leaves_38 rfl ?_
    refine am_iconst (v := 1) dX10_leaves_39 (by decide) ?_
    refine am_iadd dX10_leaves_40 ?_
    refine am_istore_n (LL := fun y9 => [some (am_R l0), some (am_I l1), some (am_I l2), some (am_I y9), none]) dX10_leaves_41 (by decide) (fun _ => rfl) (fun x7 => ?_)
    exact am_weak (sxX10_leaves_b42 (fxX10_leaves_b28 n) ih am_F l0 l1 l2 x7 h) ⟨rfl, ⟨rfl, ⟨rfl, ⟨rfl, trivial⟩⟩⟩⟩ (Nat.le_refl _) (Nat.le_refl _)
def fxX10_leaves (l0 : Option Nat) (l1 : Int32) (h : am_H) : Option (Int32 × am_H) := am_bd (fxX10_isSheet l1 h) (fun r1 h2 => if r1 = 0 then (some ((-1000000001 : Int32), h2)) else (am_gd (am_ob h2 l0 10) (am_gd (am_ix h2 (am_gr h2 l0 26) 0 l1) (if 0 ≤ (am_gi h2 (am_gr h2 l0 26) l1.toNatClampNeg) then (am_gd (am_ob h2 l0 10) (am_bd (fxX10_findBests l0 h2) (fun _ h3 => am_lt (0 : Int32) (fun x4 => fxX10_leaves_b28 am_F l0 l1 x4 h3)))) else (some ((-1000000011 : Int32), h2))))))
set_option maxRecDepth 100000 in
theorem sxX10_leaves {xs : List Int32} (l0 : Option Nat) (l1 : Int32) (h : am_H) : am_Sm xs am_ci mX10_leaves 4 0 0 0 [some (am_R l0), some (am_I l1), none, none, none] [] h (fxX10_leaves l0 l1 h) := by
  unfold fxX10_leaves
  refine am_iload_n dX10_leaves_0 rfl ?_
  refine am_callS (cvj := am_ci) (mtj := mX10_isSheet) (dj := 1) (nj := 1) (rcj := 0) (rsj := 0) (rc' := 0) (rs' := 0) (st' := fun a9 => (am_I a9 :: [])) [am_I l1] [] dX10_leaves_1 okX10_isSheet lk_RX10_167 (fun zA zH zE => txX10_isSheet l1 h zA zH zE) rfl (fun _ => rfl) (by decide) rfl (Nat.le_of_ble_eq_true rfl) (by decide) (by decide) (fun r1 h2 => ?_)
  refine am_if_ne (tgt := 10) dX10_leaves_4 (by decide) (fun c6 => ?_) (fun c6 => ?_)
  · refine am_aload_n dX10_leaves_10 rfl ?_
    refine am_getR dX10_leaves_11 fk_RX10_57 rfl ?_
    refine am_iload_n dX10_leaves_14 rfl ?_
    refine am_iald dX10_leaves_15 ?_
    refine am_if_ge (tgt := 22) dX10_leaves_16 (by decide) (fun c5 => ?_) (fun c5 => ?_)
    · refine am_aload_n dX10_leaves_22 rfl ?_
      refine am_callV (cvj := am_cu) (mtj := mX10_findBests) (dj := 3) (nj := 0) (rcj := 0) (rsj := 0) (rc' := 0) (rs' := 0) (ci := 10) (st' := fun _ => []) ⟨_, rfl, rfl⟩ [] [] dX10_leaves_23 okX10_findBests lk_RX10_155 (fun zA zH zE => txX10_findBests l0 h2 zA zH zE) rfl (fun _ => rfl) (by decide) rfl (Nat.le_of_ble_eq_true rfl) (by decide) (by decide) (fun _ h3 => ?_)
      refine am_iconst (v := 0) dX10_leaves_26 (by decide) ?_
      refine am_istore_n (LL := fun y9 => [some (am_R l0), some (am_I l1), some (am_I y9), none, none]) dX10_leaves_27 (by decide) (fun _ => rfl) (fun x4 => ?_)
      exact am_weak (sxX10_leaves_b28 am_F l0 l1 x4 h3) ⟨rfl, ⟨rfl, ⟨rfl, trivial⟩⟩⟩ (Nat.le_refl _) (Nat.le_refl _)
    refine am_ldc (v := (-1000000011)) dX10_leaves_19 wd1194 ?_
    exact am_iret dX10_leaves_21 rfl rfl
  refine am_ldc (v := (-1000000001)) dX10_leaves_7 wd1060 ?_
  exact am_iret dX10_leaves_9 rfl rfl
theorem txX10_leaves {xs : List Int32} (l0 : Option Nat) (l1 : Int32) (h : am_H) (a : Int32) (h2 : am_H) (e : fxX10_leaves l0 l1 h = some (a, h2)) : am_Ct xs mX10_leaves 4 0 0 [am_R l0, am_I l1] h (fun v h3 => v = am_ci a ∧ h3 = h2) := am_meth okX10_leaves (Nat.le_of_ble_eq_true rfl) rfl (sxX10_leaves l0 l1 h) e
theorem dX10_loss_0 : am_at cX10_loss 0 (.iload_n 1) 1 1 := by decide +kernel
theorem dX10_loss_1 : am_at cX10_loss 1 (.iconst 0) 1 2 := by decide +kernel
theorem dX10_loss_2 : am_at cX10_loss 2 (.bipush 100) 2 4 := by decide +kernel
theorem dX10_loss_4 : am_at cX10_loss 4 (.invokestatic 85) 3 7 := by decide +kernel
theorem dX10_loss_7 : am_at cX10_loss 7 (.ifCond .eq 12) 3 10 := by decide +kernel
theorem dX10_loss_10 : am_at cX10_loss 10 (.aload_n 0) 1 11 := by decide +kernel
theorem dX10_loss_11 : am_at cX10_loss 11 (.iconst 3) 1 12 := by decide +kernel
theorem dX10_loss_12 : am_at cX10_loss 12 (.iload_n 1) 1 13 := by decide +kernel
theorem dX10_loss_13 : am_at cX10_loss 13 (.invokevirtual 116) 3 16 := by decide +kernel
theorem dX10_loss_16 : am_at cX10_loss 16 (.goto 5) 3 19 := by decide +kernel
theorem dX10_loss_19 : am_at cX10_loss 19 (.ldc 93) 2 21 := by decide +kernel
theorem dX10_loss_21 : am_at cX10_loss 21 (.ireturn) 1 22 := by decide +kernel
def fxX10_loss (l0 : Option Nat) (l1 : Int32) (h : am_H) : Option (Int32 × am_H) := am_bd (fxX10_in l1 (0 : Int32) (100 : Int32) h) (fun r1 h2 => if r1 = 0 then (some ((-1000000001 : Int32), h2)) else (am_gd (am_ob h2 l0 10) (am_bd (fxX10_becomes l0 (3 : Int32) l1 h2) (fun r3 h4 => some (r3, h4)))))
set_option maxRecDepth 100000 in
theorem sxX10_loss {xs : List Int32} (l0 : Option Nat) (l1 : Int32) (h : am_H) : am_Sm xs am_ci mX10_loss 1 0 0 0 [some (am_R l0), some (am_I l1)] [] h (fxX10_loss l0 l1 h) := by
  unfold fxX10_loss
  refine am_iload_n dX10_loss_0 rfl ?_
  refine am_iconst (v := 0) dX10_loss_1 (by decide) ?_
  refine am_bipush (v := 100) dX10_loss_2 (by decide) ?_
  refine am_callS (cvj := am_ci) (mtj := mX10_in) (dj := 0) (nj := 3) (rcj := 0) (rsj := 0) (rc' := 0) (rs' := 0) (st' := fun a9 => (am_I a9 :: [])) [am_I l1, am_I (0 : Int32), am_I (100 : Int32)] [] dX10_loss_4 okX10_in lk_RX10_85 (fun zA zH zE => txX10_in l1 (0 : Int32) (100 : Int32) h zA zH zE) rfl (fun _ => rfl) (by decide) rfl (Nat.le_of_ble_eq_true rfl) (by decide) (by decide) (fun r1 h2 => ?_)
  refine am_if_eq (tgt := 19) dX10_loss_7 (by decide) (fun c5 => ?_) (fun c5 => ?_)
  · refine am_ldc (v := (-1000000001)) dX10_loss_19 wd1060 ?_
    exact am_iret dX10_loss_21 rfl rfl
  refine am_aload_n dX10_loss_10 rfl ?_
  refine am_iconst (v := 3) dX10_loss_11 (by decide) ?_
  refine am_iload_n dX10_loss_12 rfl ?_
  refine am_callV (cvj := am_ci) (mtj := mX10_becomes) (dj := 0) (nj := 2) (rcj := 0) (rsj := 0) (rc' := 0) (rs' := 0) (ci := 10) (st' := fun a9 => (am_I a9 :: [])) ⟨_, rfl, rfl⟩ [am_I (3 : Int32), am_I l1] [] dX10_loss_13 okX10_becomes lk_RX10_116 (fun zA zH zE => txX10_becomes l0 (3 : Int32) l1 h2 zA zH zE) rfl (fun _ => rfl) (by decide) rfl (Nat.le_of_ble_eq_true rfl) (by decide) (by decide) (fun r3 h4 => ?_)
  refine am_goto (tgt := 21) dX10_loss_16 (by decide) ?_
  exact am_iret dX10_loss_21 rfl rfl
theorem txX10_loss {xs : List Int32} (l0 : Option Nat) (l1 : Int32) (h : am_H) (a : Int32) (h2 : am_H) (e : fxX10_loss l0 l1 h = some (a, h2)) : am_Ct xs mX10_loss 1 0 0 [am_R l0, am_I l1] h (fun v h3 => v = am_ci a ∧ h3 = h2) := am_meth okX10_loss (Nat.le_of_ble_eq_true rfl) rfl (sxX10_loss l0 l1 h) e
theorem dX10_wearsBy_0 : am_at cX10_wearsBy 0 (.aload_n 0) 1 1 := by decide +kernel
theorem dX10_wearsBy_1 : am_at cX10_wearsBy 1 (.iconst 1) 1 2 := by decide +kernel
theorem dX10_wearsBy_2 : am_at cX10_wearsBy 2 (.invokevirtual 125) 3 5 := by decide +kernel
theorem dX10_wearsBy_5 : am_at cX10_wearsBy 5 (.istore_n 3) 1 6 := by decide +kernel
theorem dX10_wearsBy_6 : am_at cX10_wearsBy 6 (.aload_n 0) 1 7 := by decide +kernel
theorem dX10_wearsBy_7 : am_at cX10_wearsBy 7 (.getfield 54) 3 10 := by decide +kernel
theorem dX10_wearsBy_10 : am_at cX10_wearsBy 10 (.iconst 0) 1 11 := by decide +kernel
theorem dX10_wearsBy_11 : am_at cX10_wearsBy 11 (.iload_n 2) 1 12 := by decide +kernel
theorem dX10_wearsBy_12 : am_at cX10_wearsBy 12 (.iastore) 1 13 := by decide +kernel
theorem dX10_wearsBy_13 : am_at cX10_wearsBy 13 (.aload_n 0) 1 14 := by decide +kernel
theorem dX10_wearsBy_14 : am_at cX10_wearsBy 14 (.getfield 54) 3 17 := by decide +kernel
theorem dX10_wearsBy_17 : am_at cX10_wearsBy 17 (.iconst 1) 1 18 := by decide +kernel
theorem dX10_wearsBy_18 : am_at cX10_wearsBy 18 (.aload_n 0) 1 19 := by decide +kernel
theorem dX10_wearsBy_19 : am_at cX10_wearsBy 19 (.iload_n 1) 1 20 := by decide +kernel
theorem dX10_wearsBy_20 : am_at cX10_wearsBy 20 (.iconst 3) 1 21 := by decide +kernel
theorem dX10_wearsBy_21 : am_at cX10_wearsBy 21 (.invokevirtual 99) 3 24 := by decide +kernel
theorem dX10_wearsBy_24 : am_at cX10_wearsBy 24 (.iastore) 1 25 := by decide +kernel
theorem dX10_wearsBy_25 : am_at cX10_wearsBy 25 (.iload_n 3) 1 26 := by decide +kernel
theorem dX10_wearsBy_26 : am_at cX10_wearsBy 26 (.ifCond .ge 9) 3 29 := by decide +kernel
theorem dX10_wearsBy_29 : am_at cX10_wearsBy 29 (.iload_n 2) 1 30 := by decide +kernel
theorem dX10_wearsBy_30 : am_at cX10_wearsBy 30 (.iconst 4) 1 31 := by decide +kernel
theorem dX10_wearsBy_31 : am_at cX10_wearsBy 31 (.idiv) 1 32 := by decide +kernel
theorem dX10_wearsBy_32 : am_at cX10_wearsBy 32 (.goto 14) 3 35 := by decide +kernel
theorem dX10_wearsBy_35 : am_at cX10_wearsBy 35 (.aload_n 0) 1 36 := by decide +kernel
theorem dX10_wearsBy_36 : am_at cX10_wearsBy 36 (.iload_n 3) 1 37 := by decide +kernel
theorem dX10_wearsBy_37 : am_at cX10_wearsBy 37 (.invokevirtual 132) 3 40 := by decide +kernel
theorem dX10_wearsBy_40 : am_at cX10_wearsBy 40 (.iconst 0) 1 41 := by decide +kernel
theorem dX10_wearsBy_41 : am_at cX10_wearsBy 41 (.bipush 20) 2 43 := by decide +kernel
theorem dX10_wearsBy_43 : am_at cX10_wearsBy 43 (.invokestatic 128) 3 46 := by decide +kernel
theorem dX10_wearsBy_46 : am_at cX10_wearsBy 46 (.ireturn) 1 47 := by decide +kernel
def fxX10_wearsBy (l0 : Option Nat) (l1 : Int32) (l2 : Int32) (h : am_H) : Option (Int32 × am_H) := am_gd (am_ob h l0 10) (am_bd (fxX10_counts l0 (1 : Int32) h) (fun r1 h2 => am_lt r1 (fun x3 => am_gd (am_ob h2 l0 10) (am_gd (am_ix h2 (am_gr h2 l0 25) 0 (0 : Int32)) (am_lt (am_si h2 (am_gr h2 l0 25) (0 : Int32).toNatClampNeg l2) (fun h4 => am_gd (am_ob h4 l0 10) (am_gd (am_ob h4 l0 10) (am_bd (fxX10_of l0 l1 (3 : Int32) h4) (fun r5 h6 => am_gd (am_ix h6 (am_gr h4 l0 25) 0 (1 : Int32)) (am_lt (am_si h6 (am_gr h4 l0 25) (1 : Int32).toNatClampNeg r5) (fun h7 => if 0 ≤ x3 then (am_gd (am_ob h7 l0 10) (am_bd (fxX10_worksOut l0 x3 h7) (fun r8 h9 => am_bd (fxX10_within r8 (0 : Int32) (20 : Int32) h9) (fun r10 h11 => some (r10, h11))))) else (am_gd (am_nz (4 : Int32)) (some ((l2 / (4 : Int32)), h7))))))))))))))
set_option maxRecDepth 100000 in
theorem sxX10_wearsBy {xs : List Int32} (l0 : Option Nat) (l1 : Int32) (l2 : Int32) (h : am_H) : am_Sm xs am_ci mX10_wearsBy 2 0 0 0 [some (am_R l0), some (am_I l1), some (am_I l2), none] [] h (fxX10_wearsBy l0 l1 l2 h) := by
  unfold fxX10_wearsBy
  refine am_aload_n dX10_wearsBy_0 rfl ?_
  refine am_iconst (v := 1) dX10_wearsBy_1 (by decide) ?_
  refine am_callV (cvj := am_ci) (mtj := mX10_counts) (dj := 0) (nj := 1) (rcj := 0) (rsj := 0) (rc' := 0) (rs' := 0) (ci := 10) (st' := fun a9 => (am_I a9 :: [])) ⟨_, rfl, rfl⟩ [am_I (1 : Int32)] [] dX10_wearsBy_2 okX10_counts lk_RX10_125 (fun zA zH zE => txX10_counts l0 (1 : Int32) h zA zH zE) rfl (fun _ => rfl) (by decide) rfl (Nat.le_of_ble_eq_true rfl) (by decide) (by decide) (fun r1 h2 => ?_)
  refine am_istore_n (LL := fun y9 => [some (am_R l0), some (am_I l1), some (am_I l2), some (am_I y9)]) dX10_wearsBy_5 (by decide) (fun _ => rfl) (fun x3 => ?_)
  refine am_aload_n dX10_wearsBy_6 rfl ?_
  refine am_getR dX10_wearsBy_7 fk_RX10_54 rfl ?_
  refine am_iconst (v := 0) dX10_wearsBy_10 (by decide) ?_
  refine am_iload_n dX10_wearsBy_11 rfl ?_
  refine am_iast dX10_wearsBy_12 (fun h4 => ?_)
  refine am_aload_n dX10_wearsBy_13 rfl ?_
  refine am_getR dX10_wearsBy_14 fk_RX10_54 rfl ?_
  refine am_iconst (v := 1) dX10_wearsBy_17 (by decide) ?_
  refine am_aload_n dX10_wearsBy_18 rfl ?_
  refine am_iload_n dX10_wearsBy_19 rfl ?_
  refine am_iconst (v := 3) dX10_wearsBy_20 (by decide) ?_
  refine am_callV (cvj := am_ci) (mtj := mX10_of) (dj := 0) (nj := 2) (rcj := 0) (rsj := 0) (rc' := 0) (rs' := 0) (ci := 10) (st' := fun a9 => (am_I a9 :: [am_I (1 : Int32), am_R (am_gr h4 l0 25)])) ⟨_, rfl, rfl⟩ [am_I l1, am_I (3 : Int32)] [am_I (1 : Int32), am_R (am_gr h4 l0 25)] dX10_wearsBy_21 okX10_of lk_RX10_99 (fun zA zH zE => txX10_of l0 l1 (3 : Int32) h4 zA zH zE) rfl (fun _ => rfl) (by decide) rfl (Nat.le_of_ble_eq_true rfl) (by decide) (by decide) (fun r5 h6 => ?_)
  refine am_iast dX10_wearsBy_24 (fun h7 => ?_)
  refine am_iload_n dX10_wearsBy_25 rfl ?_
  refine am_if_ge (tgt := 35) dX10_wearsBy_26 (by decide) (fun c12 => ?_) (fun c12 => ?_)
  · refine am_aload_n dX10_wearsBy_35 rfl ?_
    refine am_iload_n dX10_wearsBy_36 rfl ?_
    refine am_callV (cvj := am_ci) (mtj := mX10_worksOut) (dj := 1) (nj := 1) (rcj := 0) (rsj := 0) (rc' := 0) (rs' := 0) (ci := 10) (st' := fun a9 => (am_I a9 :: [])) ⟨_, rfl, rfl⟩ [am_I x3] [] dX10_wearsBy_37 okX10_worksOut lk_RX10_132 (fun zA zH zE => txX10_worksOut l0 x3 h7 zA zH zE) rfl (fun _ => rfl) (by decide) rfl (Nat.le_of_ble_eq_true rfl) (by decide) (by decide) (fun r8 h9 => ?_)
    refine am_iconst (v := 0) dX10_wearsBy_40 (by decide) ?_
    refine am_bipush (v := 20) dX10_wearsBy_41 (by decide) ?_
    refine am_callS (cvj := am_ci) (mtj := mX10_within) (dj := 0) (nj := 3) (rcj := 0) (rsj := 0) (rc' := 0) (rs' := 0) (st' := fun a9 => (am_I a9 :: [])) [am_I r8, am_I (0 : Int32), am_I (20 : Int32)] [] dX10_wearsBy_43 okX10_within lk_RX10_128 (fun zA zH zE => txX10_within r8 (0 : Int32) (20 : Int32) h9 zA zH zE) rfl (fun _ => rfl) (by decide) rfl (Nat.le_of_ble_eq_true rfl) (by decide) (by decide) (fun r10 h11 => ?_)
    exact am_iret dX10_wearsBy_46 rfl rfl
  refine am_iload_n dX10_wearsBy_29 rfl ?_
  refine am_iconst (v := 4) dX10_wearsBy_30 (by decide) ?_
  refine am_idiv dX10_wearsBy_31 ?_
  refine am_goto (tgt := 46) dX10_wearsBy_32 (by decide) ?_
  exact am_iret dX10_wearsBy_46 rfl rfl
theorem txX10_wearsBy {xs : List Int32} (l0 : Option Nat) (l1 : Int32) (l2 : Int32) (h : am_H) (a : Int32) (h2 : am_H) (e : fxX10_wearsBy l0 l1 l2 h = some (a, h2)) : am_Ct xs mX10_wearsBy 2 0 0 [am_R l0, am_I l1, am_I l2] h (fun v h3 => v = am_ci a ∧ h3 = h2) := am_meth okX10_wearsBy (Nat.le_of_ble_eq_true rfl) rfl (sxX10_wearsBy l0 l1 l2 h) e
theorem dX10_day_0 : am_at cX10_day 0 (.iconst 0) 1 1 := by decide +kernel
theorem dX10_day_1 : am_at cX10_day 1 (.istore_n 2) 1 2 := by decide +kernel
theorem dX10_day_2 : am_at cX10_day 2 (.iconst 0) 1 3 := by decide +kernel
theorem dX10_day_3 : am_at cX10_day 3 (.istore_n 3) 1 4 := by decide +kernel
theorem dX10_day_4 : am_at cX10_day 4 (.iload_n 3) 1 5 := by decide +kernel
theorem dX10_day_5 : am_at cX10_day 5 (.aload_n 0) 1 6 := by decide +kernel
theorem dX10_day_6 : am_at cX10_day 6 (.getfield 9) 3 9 := by decide +kernel
theorem dX10_day_9 : am_at cX10_day 9 (.iconst 1) 1 10 := by decide +kernel
theorem dX10_day_10 : am_at cX10_day 10 (.iaload) 1 11 := by decide +kernel
theorem dX10_day_11 : am_at cX10_day 11 (.if_icmp .ge 110) 3 14 := by decide +kernel
theorem dX10_day_14 : am_at cX10_day 14 (.iload_n 3) 1 15 := by decide +kernel
theorem dX10_day_15 : am_at cX10_day 15 (.iload_n 1) 1 16 := by decide +kernel
theorem dX10_day_16 : am_at cX10_day 16 (.if_icmp .eq 99) 3 19 := by decide +kernel
theorem dX10_day_19 : am_at cX10_day 19 (.aload_n 0) 1 20 := by decide +kernel
theorem dX10_day_20 : am_at cX10_day 20 (.iload_n 3) 1 21 := by decide +kernel
theorem dX10_day_21 : am_at cX10_day 21 (.iconst 5) 1 22 := by decide +kernel
theorem dX10_day_22 : am_at cX10_day 22 (.invokevirtual 99) 3 25 := by decide +kernel
theorem dX10_day_25 : am_at cX10_day 25 (.ifCond .ne 90) 3 28 := by decide +kernel
theorem dX10_day_28 : am_at cX10_day 28 (.aload_n 0) 1 29 := by decide +kernel
theorem dX10_day_29 : am_at cX10_day 29 (.invokevirtual 142) 3 32 := by decide +kernel
theorem dX10_day_32 : am_at cX10_day 32 (.bipush 10) 2 34 := by decide +kernel
theorem dX10_day_34 : am_at cX10_day 34 (.irem) 1 35 := by decide +kernel
theorem dX10_day_35 : am_at cX10_day 35 (.istore 4) 2 37 := by decide +kernel
theorem dX10_day_37 : am_at cX10_day 37 (.aload_n 0) 1 38 := by decide +kernel
theorem dX10_day_38 : am_at cX10_day 38 (.iload_n 3) 1 39 := by decide +kernel
theorem dX10_day_39 : am_at cX10_day 39 (.iconst 4) 1 40 := by decide +kernel
theorem dX10_day_40 : am_at cX10_day 40 (.aload_n 0) 1 41 := by decide +kernel
theorem dX10_day_41 : am_at cX10_day 41 (.iload_n 3) 1 42 := by decide +kernel
theorem dX10_day_42 : am_at cX10_day 42 (.iconst 4) 1 43 := by decide +kernel
theorem dX10_day_43 : am_at cX10_day 43 (.invokevirtual 99) 3 46 := by decide +kernel
theorem dX10_day_46 : am_at cX10_day 46 (.aload_n 0) 1 47 := by decide +kernel
theorem dX10_day_47 : am_at cX10_day 47 (.iload_n 3) 1 48 := by decide +kernel
theorem dX10_day_48 : am_at cX10_day 48 (.iload 4) 2 50 := by decide +kernel
theorem dX10_day_50 : am_at cX10_day 50 (.invokevirtual 174) 3 53 := by decide +kernel
theorem dX10_day_53 : am_at cX10_day 53 (.iadd) 1 54 := by decide +kernel
theorem dX10_day_54 : am_at cX10_day 54 (.iconst 0) 1 55 := by decide +kernel
theorem dX10_day_55 : am_at cX10_day 55 (.bipush 99) 2 57 := by decide +kernel
theorem dX10_day_57 : am_at cX10_day 57 (.invokestatic 128) 3 60 := by decide +kernel
theorem dX10_day_60 : am_at cX10_day 60 (.invokevirtual 89) 3 63 := by decide +kernel
theorem dX10_day_63 : am_at cX10_day 63 (.aload_n 0) 1 64 := by decide +kernel
theorem dX10_day_64 : am_at cX10_day 64 (.invokevirtual 142) 3 67 := by decide +kernel
theorem dX10_day_67 : am_at cX10_day 67 (.bipush 100) 2 69 := by decide +kernel
theorem dX10_day_69 : am_at cX10_day 69 (.irem) 1 70 := by decide +kernel
theorem dX10_day_70 : am_at cX10_day 70 (.aload_n 0) 1 71 := by decide +kernel
theorem dX10_day_71 : am_at cX10_day 71 (.getfield 9) 3 74 := by decide +kernel
theorem dX10_day_74 : am_at cX10_day 74 (.iconst 3) 1 75 := by decide +kernel
theorem dX10_day_75 : am_at cX10_day 75 (.iaload) 1 76 := by decide +kernel
theorem dX10_day_76 : am_at cX10_day 76 (.if_icmp .ge 7) 3 79 := by decide +kernel
theorem dX10_day_79 : am_at cX10_day 79 (.iconst 1) 1 80 := by decide +kernel
theorem dX10_day_80 : am_at cX10_day 80 (.goto 4) 3 83 := by decide +kernel
theorem dX10_day_83 : am_at cX10_day 83 (.iconst 0) 1 84 := by decide +kernel
theorem dX10_day_84 : am_at cX10_day 84 (.istore 5) 2 86 := by decide +kernel
theorem dX10_day_86 : am_at cX10_day 86 (.aload_n 0) 1 87 := by decide +kernel
theorem dX10_day_87 : am_at cX10_day 87 (.iload_n 3) 1 88 := by decide +kernel
theorem dX10_day_88 : am_at cX10_day 88 (.iconst 5) 1 89 := by decide +kernel
theorem dX10_day_89 : am_at cX10_day 89 (.iload 5) 2 91 := by decide +kernel
theorem dX10_day_91 : am_at cX10_day 91 (.ifCond .eq 7) 3 94 := by decide +kernel
theorem dX10_day_94 : am_at cX10_day 94 (.iconst 1) 1 95 := by decide +kernel
theorem dX10_day_95 : am_at cX10_day 95 (.goto 4) 3 98 := by decide +kernel
theorem dX10_day_98 : am_at cX10_day 98 (.iconst 0) 1 99 := by decide +kernel
theorem dX10_day_99 : am_at cX10_day 99 (.invokevirtual 89) 3 102 := by decide +kernel
theorem dX10_day_102 : am_at cX10_day 102 (.iload_n 2) 1 103 := by decide +kernel
theorem dX10_day_103 : am_at cX10_day 103 (.iload 5) 2 105 := by decide +kernel
theorem dX10_day_105 : am_at cX10_day 105 (.ifCond .eq 7) 3 108 := by decide +kernel
theorem dX10_day_108 : am_at cX10_day 108 (.iconst 1) 1 109 := by decide +kernel
theorem dX10_day_109 : am_at cX10_day 109 (.goto 4) 3 112 := by decide +kernel
theorem dX10_day_112 : am_at cX10_day 112 (.iconst 0) 1 113 := by decide +kernel
theorem dX10_day_113 : am_at cX10_day 113 (.iadd) 1 114 := by decide +kernel
theorem dX10_day_114 : am_at cX10_day 114 (.istore_n 2) 1 115 := by decide +kernel
theorem dX10_day_115 : am_at cX10_day 115 (.iinc 3 1) 3 118 := by decide +kernel
theorem dX10_day_118 : am_at cX10_day 118 (.goto (-114)) 3 121 := by decide +kernel
theorem dX10_day_121 : am_at cX10_day 121 (.aload_n 0) 1 122 := by decide +kernel
theorem dX10_day_122 : am_at cX10_day 122 (.getfield 9) 3 125 := by decide +kernel
theorem dX10_day_125 : am_at cX10_day 125 (.iconst 2) 1 126 := by decide +kernel
theorem dX10_day_126 : am_at cX10_day 126 (.dup2) 1 127 := by decide +kernel
theorem dX10_day_127 : am_at cX10_day 127 (.iaload) 1 128 := by decide +kernel
theorem dX10_day_128 : am_at cX10_day 128 (.iconst 1) 1 129 := by decide +kernel
theorem dX10_day_129 : am_at cX10_day 129 (.iadd) 1 130 := by decide +kernel
theorem dX10_day_130 : am_at cX10_day 130 (.iastore) 1 131 := by decide +kernel
theorem dX10_day_131 : am_at cX10_day 131 (.iload_n 2) 1 132 := by decide +kernel
theorem dX10_day_132 : am_at cX10_day 132 (.ireturn) 1 133 := by decide +kernel
def fxX10_day_b115 (k4 : Option Nat → Int32 → Int32 → Int32 → am_H → Option (Int32 × am_H)) (l0 : Option Nat) (l1 : Int32) (l2 : Int32) (l3 : Int32) (h : am_H) : Option (Int32 × am_H) := am_lt (l3 + 1) (fun x22 => k4 l0 l1 l2 x22 h)
set_option maxRecDepth 100000 in
theorem sxX10_day_b115 {xs : List Int32} (k4 : Option Nat → Int32 → Int32 → Int32 → am_H → Option (Int32 × am_H)) (hk4 : ∀ (l0 : Option Nat) (l1 : Int32) (l2 : Int32) (l3 : Int32) (h : am_H), am_Sm xs am_ci mX10_day 3 0 0 4 [some (am_R l0), some (am_I l1), some (am_I l2), some (am_I l3), none, none] [] h (k4 l0 l1 l2 l3 h)) (l0 : Option Nat) (l1 : Int32) (l2 : Int32) (l3 : Int32) (h : am_H) : am_Sm xs am_ci mX10_day 3 0 0 115 [some (am_R l0), some (am_I l1), some (am_I l2), some (am_I l3), none, none] [] h (fxX10_day_b115 k4 l0 l1 l2 l3 h) := by
  unfold fxX10_day_b115
  refine am_iinc (v := 1) (LL := fun y9 => [some (am_R l0), some (am_I l1), some (am_I l2), some (am_I y9), none, none]) dX10_day_115 (by decide) rfl (by decide) (fun _ => rfl) (fun x22 => ?_)
  refine am_goto (tgt := 4) dX10_day_118 (by decide) ?_
  exact am_weak (hk4 l0 l1 l2 x22 h) ⟨rfl, ⟨rfl, ⟨rfl, ⟨rfl, trivial⟩⟩⟩⟩ (Nat.le_refl _) (Nat.le_refl _)
def fxX10_day_b113 (k4 : Option Nat → Int32 → Int32 → Int32 → am_H → Option (Int32 × am_H)) (l0 : Option Nat) (l1 : Int32) (l3 : Int32) (s0 : Int32) (s1 : Int32) (h : am_H) : Option (Int32 × am_H) := am_lt (s1 + s0) (fun x27 => fxX10_day_b115 k4 l0 l1 x27 l3 h)
set_option maxRecDepth 100000 in
theorem sxX10_day_b113 {xs : List Int32} (k4 : Option Nat → Int32 → Int32 → Int32 → am_H → Option (Int32 × am_H)) (hk4 : ∀ (l0 : Option Nat) (l1 : Int32) (l2 : Int32) (l3 : Int32) (h : am_H), am_Sm xs am_ci mX10_day 3 0 0 4 [some (am_R l0), some (am_I l1), some (am_I l2), some (am_I l3), none, none] [] h (k4 l0 l1 l2 l3 h)) (l0 : Option Nat) (l1 : Int32) (l3 : Int32) (s0 : Int32) (s1 : Int32) (h : am_H) : am_Sm xs am_ci mX10_day 3 0 0 113 [some (am_R l0), some (am_I l1), none, some (am_I l3), none, none] [am_I s0, am_I s1] h (fxX10_day_b113 k4 l0 l1 l3 s0 s1 h) := by
  unfold fxX10_day_b113
  refine am_iadd dX10_day_113 ?_
  refine am_istore_n (LL := fun y9 => [some (am_R l0), some (am_I l1), some (am_I y9), some (am_I l3), none, none]) dX10_day_114 (by decide) (fun _ => rfl) (fun x27 => ?_)
  exact am_weak (sxX10_day_b115 k4 hk4 l0 l1 x27 l3 h) ⟨rfl, ⟨rfl, ⟨rfl, ⟨rfl, trivial⟩⟩⟩⟩ (Nat.le_refl _) (Nat.le_refl _)
def fxX10_day_b99 (k4 : Option Nat → Int32 → Int32 → Int32 → am_H → Option (Int32 × am_H)) (l0 : Option Nat) (l1 : Int32) (l2 : Int32) (l3 : Int32) (l5 : Int32) (s0 : Int32) (s1 : Int32) (s2 : Int32) (s3 : Option Nat) (h : am_H) : Option (Int32 × am_H) := am_gd (am_ob h s3 10) (am_bd (fxX10_put s3 s2 s1 s0 h) (fun _ h25 => if l5 = 0 then (fxX10_day_b113 k4 l0 l1 l3 (0 : Int32) l2 h25) else (fxX10_day_b113 k4 l0 l1 l3 (1 : Int32) l2 h25)))
set_option maxRecDepth 100000 in
theorem sxX10_day_b99 {xs : List Int32} (k4 : Option Nat → Int32 → Int32 → Int32 → am_H → Option (Int32 × am_H)) (hk4 : ∀ (l0 : Option Nat) (l1 : Int32) (l2 : Int32) (l3 : Int32) (h : am_H), am_Sm xs am_ci mX10_day 3 0 0 4 [some (am_R l0), some (am_I l1), some (am_I l2), some (am_I l3), none, none] [] h (k4 l0 l1 l2 l3 h)) (l0 : Option Nat) (l1 : Int32) (l2 : Int32) (l3 : Int32) (l5 : Int32) (s0 : Int32) (s1 : Int32) (s2 : Int32) (s3 : Option Nat) (h : am_H) : am_Sm xs am_ci mX10_day 3 0 0 99 [some (am_R l0), some (am_I l1), some (am_I l2), some (am_I l3), none, some (am_I l5)] [am_I s0, am_I s1, am_I s2, am_R s3] h (fxX10_day_b99 k4 l0 l1 l2 l3 l5 s0 s1 s2 s3 h) := by
  unfold fxX10_day_b99
  refine am_callV (cvj := am_cu) (mtj := mX10_put) (dj := 0) (nj := 3) (rcj := 0) (rsj := 0) (rc' := 0) (rs' := 0) (ci := 10) (st' := fun _ => []) ⟨_, rfl, rfl⟩ [am_I s2, am_I s1, am_I s0] [] dX10_day_99 okX10_put lk_RX10_89 (fun zA zH zE => txX10_put s3 s2 s1 s0 h zA zH zE) rfl (fun _ => rfl) (by decide) rfl (Nat.le_of_ble_eq_true rfl) (by decide) (by decide) (fun _ h25 => ?_)
  refine am_iload_n dX10_day_102 rfl ?_
  refine am_iload dX10_day_103 rfl ?_
  refine am_if_eq (tgt := 112) dX10_day_105 (by decide) (fun c26 => ?_) (fun c26 => ?_)
  · refine am_iconst (v := 0) dX10_day_112 (by decide) ?_
    exact am_weak (sxX10_day_b113 k4 hk4 l0 l1 l3 (0 : Int32) l2 h25) ⟨rfl, ⟨rfl, ⟨rfl, trivial⟩⟩⟩ (Nat.le_refl _) (Nat.le_refl _)
  refine am_iconst (v := 1) dX10_day_108 (by decide) ?_
  refine am_goto (tgt := 113) dX10_day_109 (by decide) ?_
  exact am_weak (sxX10_day_b113 k4 hk4 l0 l1 l3 (1 : Int32) l2 h25) ⟨rfl, ⟨rfl, ⟨rfl, trivial⟩⟩⟩ (Nat.le_refl _) (Nat.le_refl _)
def fxX10_day_b84 (k4 : Option Nat → Int32 → Int32 → Int32 → am_H → Option (Int32 × am_H)) (l0 : Option Nat) (l1 : Int32) (l2 : Int32) (l3 : Int32) (s0 : Int32) (h : am_H) : Option (Int32 × am_H) := am_lt s0 (fun x23 => if x23 = 0 then (fxX10_day_b99 k4 l0 l1 l2 l3 x23 (0 : Int32) (5 : Int32) l3 l0 h) else (fxX10_day_b99 k4 l0 l1 l2 l3 x23 (1 : Int32) (5 : Int32) l3 l0 h))
set_option maxRecDepth 100000 in
theorem sxX10_day_b84 {xs : List Int32} (k4 : Option Nat → Int32 → Int32 → Int32 → am_H → Option (Int32 × am_H)) (hk4 : ∀ (l0 : Option Nat) (l1 : Int32) (l2 : Int32) (l3 : Int32) (h : am_H), am_Sm xs am_ci mX10_day 3 0 0 4 [some (am_R l0), some (am_I l1), some (am_I l2), some (am_I l3), none, none] [] h (k4 l0 l1 l2 l3 h)) (l0 : Option Nat) (l1 : Int32) (l2 : Int32) (l3 : Int32) (s0 : Int32) (h : am_H) : am_Sm xs am_ci mX10_day 3 0 0 84 [some (am_R l0), some (am_I l1), some (am_I l2), some (am_I l3), none, none] [am_I s0] h (fxX10_day_b84 k4 l0 l1 l2 l3 s0 h) := by
  unfold fxX10_day_b84
  refine am_istore (LL := fun y9 => [some (am_R l0), some (am_I l1), some (am_I l2), some (am_I l3), none, some (am_I y9)]) dX10_day_84 (by decide) (fun _ => rfl) (fun x23 => ?_)
  refine am_aload_n dX10_day_86 rfl ?_
  refine am_iload_n dX10_day_87 rfl ?_
  refine am_iconst (v := 5) dX10_day_88 (by decide) ?_
  refine am_iload dX10_day_89 rfl ?_
  refine am_if_eq (tgt := 98) dX10_day_91 (by decide) (fun c24 => ?_) (fun c24 => ?_)
  · refine am_iconst (v := 0) dX10_day_98 (by decide) ?_
    exact am_weak (sxX10_day_b99 k4 hk4 l0 l1 l2 l3 x23 (0 : Int32) (5 : Int32) l3 l0 h) ⟨rfl, ⟨rfl, ⟨rfl, ⟨rfl, ⟨rfl, trivial⟩⟩⟩⟩⟩ (Nat.le_refl _) (Nat.le_refl _)
  refine am_iconst (v := 1) dX10_day_94 (by decide) ?_
  refine am_goto (tgt := 99) dX10_day_95 (by decide) ?_
  exact am_weak (sxX10_day_b99 k4 hk4 l0 l1 l2 l3 x23 (1 : Int32) (5 : Int32) l3 l0 h) ⟨rfl, ⟨rfl, ⟨rfl, ⟨rfl, ⟨rfl, trivial⟩⟩⟩⟩⟩ (Nat.le_refl _) (Nat.le_refl _)
def fxX10_day_b4 : Nat → Option Nat → Int32 → Int32 → Int32 → am_H → Option (Int32 × am_H)
  | 0, _, _, _, _, _ => none
  | n + 1, l0, l1, l2, l3, h => am_gd (am_ob h l0 10) (am_gd (am_ix h (am_gr h l0 0) 0 (1 : Int32)) (if (am_gi h (am_gr h l0 0) (1 : Int32).toNatClampNeg) ≤ l3 then (am_gd (am_ob h l0 10) (am_gd (am_ix h (am_gr h l0 0) 0 (2 : Int32)) (am_gd (am_ix h (am_gr h l0 0) 0 (2 : Int32)) (am_lt (am_si h (am_gr h l0 0) (2 : Int32).toNatClampNeg ((am_gi h (am_gr h l0 0) (2 : Int32).toNatClampNeg) + (1 : Int32))) (fun h3 => some (l2, h3)))))) else (if l3 = l1 then (fxX10_day_b115 (fxX10_day_b4 n) l0 l1 l2 l3 h) else (am_gd (am_ob h l0 10) (am_bd (fxX10_of l0 l3 (5 : Int32) h) (fun r4 h5 => if r4 = 0 then (am_gd (am_ob h5 l0 10) (am_bd (fxX10_draw l0 h5) (fun r6 h7 => am_gd (am_nz (10 : Int32)) (am_lt (am_rem r6 (10 : Int32)) (fun x8 => am_gd (am_ob h7 l0 10) (am_bd (fxX10_of l0 l3 (4 : Int32) h7) (fun r9 h10 => am_gd (am_ob h10 l0 10) (am_bd (fxX10_wearsBy l0 l3 x8 h10) (fun r11 h12 => am_bd (fxX10_within (r9 + r11) (0 : Int32) (99 : Int32) h12) (fun r13 h14 => am_gd (am_ob h14 l0 10) (am_bd (fxX10_put l0 l3 (4 : Int32) r13 h14) (fun _ h15 => am_gd (am_ob h15 l0 10) (am_bd (fxX10_draw l0 h15) (fun r16 h17 => am_gd (am_nz (100 : Int32)) (am_gd (am_ob h17 l0 10) (am_gd (am_ix h17 (am_gr h17 l0 0) 0 (3 : Int32)) (if (am_gi h17 (am_gr h17 l0 0) (3 : Int32).toNatClampNeg) ≤ (am_rem r16 (100 : Int32)) then (fxX10_day_b84 (fxX10_day_b4 n) l0 l1 l2 l3 (0 : Int32) h17) else (fxX10_day_b84 (fxX10_day_b4 n) l0 l1 l2 l3 (1 : Int32) h17)))))))))))))))))) else (fxX10_day_b115 (fxX10_day_b4 n) l0 l1 l2 l3 h5)))))))
set_option maxRecDepth 100000 in
theorem sxX10_day_b4 {xs : List Int32} : ∀ (n : Nat) (l0 : Option Nat) (l1 : Int32) (l2 : Int32) (l3 : Int32) (h : am_H), am_Sm xs am_ci mX10_day 3 0 0 4 [some (am_R l0), some (am_I l1), some (am_I l2), some (am_I l3), none, none] [] h (fxX10_day_b4 n l0 l1 l2 l3 h) := by
  intro n
  induction n with
  | zero => intros; exact am_none
  | succ n ih =>
    intro l0 l1 l2 l3 h
    rw [fxX10_day_b4]
    refine am_iload_n dX10_day_4 rfl ?_
    refine am_aload_n dX10_day_5 rfl ?_
    refine am_getR dX10_day_6 fk_RX10_9 rfl ?_
    refine am_iconst (v := 1) dX10_day_9 (by decide) ?_
    refine am_iald dX10_day_10 ?_
    refine am_icmp_ge (tgt := 121) dX10_day_11 (by decide) (fun c21 => ?_) (fun c21 => ?_)
    · refine am_aload_n dX10_day_121 rfl ?_
      refine am_getR dX10_day_122 fk_RX10_9 rfl ?_
      refine am_iconst (v := 2) dX10_day_125 (by decide) ?_
      refine am_dup2 dX10_day_126 ?_
      refine am_iald dX10_day_127 ?_
      refine am_iconst (v := 1) dX10_day_128 (by decide) ?_
      refine am_iadd dX10_day_129 ?_
      refine am_iast dX10_day_130 (fun h3 => ?_)
      refine am_iload_n dX10_day_131 rfl ?_
      exact am_iret dX10_day_132 rfl rfl
    refine am_iload_n dX10_day_14 rfl ?_
    refine am_iload_n dX10_day_15 rfl ?_
    refine am_icmp_eq (tgt := 115) dX10_day_16 (by decide) (fun c20 => ?_) (fun c20 => ?_)
    · exact am_weak (sxX10_day_b115 (fxX10_day_b4 n) ih l0 l1 l2 l3 h) ⟨rfl, ⟨rfl, ⟨rfl, ⟨rfl, trivial⟩⟩⟩⟩ (Nat.le_refl _) (Nat.le_refl _)
    refine am_aload_n dX10_day_19 rfl ?_
    refine am_iload_n dX10_day_20 rfl ?_
    refine am_iconst (v := 5) dX10_day_21 (by decide) ?_
    refine am_callV (cvj := am_ci) (mtj := mX10_of) (dj := 0) (nj := 2) (rcj := 0) (rsj := 0) (rc' := 0) (rs' := 0) (ci := 10) (st' := fun a9 => (am_I a9 :: [])) ⟨_, rfl, rfl⟩ [am_I l3, am_I (5 : Int32)] [] dX10_day_22 okX10_of lk_RX10_99 (fun zA zH zE => txX10_of l0 l3 (5 : Int32) h zA zH zE) rfl (fun _ => rfl) (by decide) rfl (Nat.le_of_ble_eq_true rfl) (by decide) (by decide) (fun r4 h5 => ?_)
    refine am_if_ne (tgt := 115) dX10_day_25 (by decide) (fun c19 => ?_) (fun c19 => ?_)
    · exact am_weak (sxX10_day_b115 (fxX10_day_b4 n) ih l0 l1 l2 l3 h5) ⟨rfl, ⟨rfl, ⟨rfl, ⟨rfl, trivial⟩⟩⟩⟩ (Nat.le_refl _) (Nat.le_refl _)
    refine am_aload_n dX10_day_28 rfl ?_
    refine am_callV (cvj := am_ci) (mtj := mX10_draw) (dj := 0) (nj := 0) (rcj := 0) (rsj := 0) (rc' := 0) (rs' := 0) (ci := 10) (st' := fun a9 => (am_I a9 :: [])) ⟨_, rfl, rfl⟩ [] [] dX10_day_29 okX10_draw lk_RX10_142 (fun zA zH zE => txX10_draw l0 h5 zA zH zE) rfl (fun _ => rfl) (by decide) rfl (Nat.le_of_ble_eq_true rfl) (by decide) (by decide) (fun r6 h7 => ?_)
    refine am_bipush (v := 10) dX10_day_32 (by decide) ?_
    refine am_irem dX10_day_34 ?_
    refine am_istore (LL := fun y9 => [some (am_R l0), some (am_I l1), some (am_I l2), some (am_I l3), some (am_I y9), none]) dX10_day_35 (by decide) (fun _ => rfl) (fun x8 => ?_)
    refine am_aload_n dX10_day_37 rfl ?_
    refine am_iload_n dX10_day_38 rfl ?_
    refine am_iconst (v := 4) dX10_day_39 (by decide) ?_
    refine am_aload_n dX10_day_40 rfl ?_
    refine am_iload_n dX10_day_41 rfl ?_
    refine am_iconst (v := 4) dX10_day_42 (by decide) ?_
    refine am_callV (cvj := am_ci) (mtj := mX10_of) (dj := 0) (nj := 2) (rcj := 0) (rsj := 0) (rc' := 0) (rs' := 0) (ci := 10) (st' := fun a9 => (am_I a9 :: [am_I (4 : Int32), am_I l3, am_R l0])) ⟨_, rfl, rfl⟩ [am_I l3, am_I (4 : Int32)] [am_I (4 : Int32), am_I l3, am_R l0] dX10_day_43 okX10_of lk_RX10_99 (fun zA zH zE => txX10_of l0 l3 (4 : Int32) h7 zA zH zE) rfl (fun _ => rfl) (by decide) rfl (Nat.le_of_ble_eq_true rfl) (by decide) (by decide) (fun r9 h10 => ?_)
    refine am_aload_n dX10_day_46 rfl ?_
    refine am_iload_n dX10_day_47 rfl ?_
    refine am_iload dX10_day_48 rfl ?_
    refine am_callV (cvj := am_ci) (mtj := mX10_wearsBy) (dj := 2) (nj := 2) (rcj := 0) (rsj := 0) (rc' := 0) (rs' := 0) (ci := 10) (st' := fun a9 => (am_I a9 :: [am_I r9, am_I (4 : Int32), am_I l3, am_R l0])) ⟨_, rfl, rfl⟩ [am_I l3, am_I x8] [am_I r9, am_I (4 : Int32), am_I l3, am_R l0] dX10_day_50 okX10_wearsBy lk_RX10_174 (fun zA zH zE => txX10_wearsBy l0 l3 x8 h10 zA zH zE) rfl (fun _ => rfl) (by decide) rfl (Nat.le_of_ble_eq_true rfl) (by decide) (by decide) (fun r11 h12 => ?_)
    refine am_iadd dX10_day_53 ?_
    refine am_iconst (v := 0) dX10_day_54 (by decide) ?_
    refine am_bipush (v := 99) dX10_day_55 (by decide) ?_
    refine am_callS (cvj := am_ci) (mtj := mX10_within) (dj := 0) (nj := 3) (rcj := 0) (rsj := 0) (rc' := 0) (rs' := 0) (st' := fun a9 => (am_I a9 :: [am_I (4 : Int32), am_I l3, am_R l0])) [am_I (r9 + r11), am_I (0 : Int32), am_I (99 : Int32)] [am_I (4 : Int32), am_I l3, am_R l0] dX10_day_57 okX10_within lk_RX10_128 (fun zA zH zE => txX10_within (r9 + r11) (0 : Int32) (99 : Int32) h12 zA zH zE) rfl (fun _ => rfl) (by decide) rfl (Nat.le_of_ble_eq_true rfl) (by decide) (by decide) (fun r13 h14 => ?_)
    refine am_callV (cvj := am_cu) (mtj := mX10_put) (dj := 0) (nj := 3) (rcj := 0) (rsj := 0) (rc' := 0) (rs' := 0) (ci := 10) (st' := fun _ => []) ⟨_, rfl, rfl⟩ [am_I l3, am_I (4 : Int32), am_I r13] [] dX10_day_60 okX10_put lk_RX10_89 (fun zA zH zE => txX10_put l0 l3 (4 : Int32) r13 h14 zA zH zE) rfl (fun _ => rfl) (by decide) rfl (Nat.le_of_ble_eq_true rfl) (by decide) (by decide) (fun _ h15 => ?_)
    refine am_aload_n dX10_day_63 rfl ?_
    refine am_callV (cvj := am_ci) (mtj := mX10_draw) (dj := 0) (nj := 0) (rcj := 0) (rsj := 0) (rc' := 0) (rs' := 0) (ci := 10) (st' := fun a9 => (am_I a9 :: [])) ⟨_, rfl, rfl⟩ [] [] dX10_day_64 okX10_draw lk_RX10_142 (fun zA zH zE => txX10_draw l0 h15 zA zH zE) rfl (fun _ => rfl) (by decide) rfl (Nat.le_of_ble_eq_true rfl) (by decide) (by decide) (fun r16 h17 => ?_)
    refine am_bipush (v := 100) dX10_day_67 (by decide) ?_
    refine am_irem dX10_day_69 ?_
    refine am_aload_n dX10_day_70 rfl ?_
    refine am_getR dX10_day_71 fk_RX10_9 rfl ?_
    refine am_iconst (v := 3) dX10_day_74 (by decide) ?_
    refine am_iald dX10_day_75 ?_
    refine am_icmp_ge (tgt := 83) dX10_day_76 (by decide) (fun c18 => ?_) (fun c18 => ?_)
    · refine am_iconst (v := 0) dX10_day_83 (by decide) ?_
      exact am_weak (sxX10_day_b84 (fxX10_day_b4 n) ih l0 l1 l2 l3 (0 : Int32) h17) ⟨rfl, ⟨rfl, ⟨rfl, ⟨rfl, trivial⟩⟩⟩⟩ (Nat.le_refl _) (Nat.le_refl _)
    refine am_iconst (v := 1) dX10_day_79 (by decide) ?_
    refine am_goto (tgt := 84) dX10_day_80 (by decide) ?_
    exact am_weak (sxX10_day_b84 (fxX10_day_b4 n) ih l0 l1 l2 l3 (1 : Int32) h17) ⟨rfl, ⟨rfl, ⟨rfl, ⟨rfl, trivial⟩⟩⟩⟩ (Nat.le_refl _) (Nat.le_refl _)
def fxX10_day (l0 : Option Nat) (l1 : Int32) (h : am_H) : Option (Int32 × am_H) := am_lt (0 : Int32) (fun x1 => am_lt (0 : Int32) (fun x2 => fxX10_day_b4 am_F l0 l1 x1 x2 h))
set_option maxRecDepth 100000 in
theorem sxX10_day {xs : List Int32} (l0 : Option Nat) (l1 : Int32) (h : am_H) : am_Sm xs am_ci mX10_day 3 0 0 0 [some (am_R l0), some (am_I l1), none, none, none, none] [] h (fxX10_day l0 l1 h) := by
  unfold fxX10_day
  refine am_iconst (v := 0) dX10_day_0 (by decide) ?_
  refine am_istore_n (LL := fun y9 => [some (am_R l0), some (am_I l1), some (am_I y9), none, none, none]) dX10_day_1 (by decide) (fun _ => rfl) (fun x1 => ?_)
  refine am_iconst (v := 0) dX10_day_2 (by decide) ?_
  refine am_istore_n (LL := fun y9 => [some (am_R l0), some (am_I l1), some (am_I x1), some (am_I y9), none, none]) dX10_day_3 (by decide) (fun _ => rfl) (fun x2 => ?_)
  exact am_weak (sxX10_day_b4 am_F l0 l1 x1 x2 h) ⟨rfl, ⟨rfl, ⟨rfl, ⟨rfl, trivial⟩⟩⟩⟩ (Nat.le_refl _) (Nat.le_refl _)
theorem txX10_day {xs : List Int32} (l0 : Option Nat) (l1 : Int32) (h : am_H) (a : Int32) (h2 : am_H) (e : fxX10_day l0 l1 h = some (a, h2)) : am_Ct xs mX10_day 3 0 0 [am_R l0, am_I l1] h (fun v h3 => v = am_ci a ∧ h3 = h2) := am_meth okX10_day (Nat.le_of_ble_eq_true rfl) rfl (sxX10_day l0 l1 h) e
theorem dX10_goesOn_0 : am_at cX10_goesOn 0 (.iconst 0) 1 1 := by decide +kernel
theorem dX10_goesOn_1 : am_at cX10_goesOn 1 (.istore_n 3) 1 2 := by decide +kernel
theorem dX10_goesOn_2 : am_at cX10_goesOn 2 (.iconst 0) 1 3 := by decide +kernel
theorem dX10_goesOn_3 : am_at cX10_goesOn 3 (.istore 4) 2 5 := by decide +kernel
theorem dX10_goesOn_5 : am_at cX10_goesOn 5 (.iload 4) 2 7 := by decide +kernel
theorem dX10_goesOn_7 : am_at cX10_goesOn 7 (.iload_n 1) 1 8 := by decide +kernel
theorem dX10_goesOn_8 : am_at cX10_goesOn 8 (.if_icmp .ge 17) 3 11 := by decide +kernel
theorem dX10_goesOn_11 : am_at cX10_goesOn 11 (.iload_n 3) 1 12 := by decide +kernel
theorem dX10_goesOn_12 : am_at cX10_goesOn 12 (.aload_n 0) 1 13 := by decide +kernel
theorem dX10_goesOn_13 : am_at cX10_goesOn 13 (.iload_n 2) 1 14 := by decide +kernel
theorem dX10_goesOn_14 : am_at cX10_goesOn 14 (.invokevirtual 177) 3 17 := by decide +kernel
theorem dX10_goesOn_17 : am_at cX10_goesOn 17 (.iadd) 1 18 := by decide +kernel
theorem dX10_goesOn_18 : am_at cX10_goesOn 18 (.istore_n 3) 1 19 := by decide +kernel
theorem dX10_goesOn_19 : am_at cX10_goesOn 19 (.iinc 4 1) 3 22 := by decide +kernel
theorem dX10_goesOn_22 : am_at cX10_goesOn 22 (.goto (-17)) 3 25 := by decide +kernel
theorem dX10_goesOn_25 : am_at cX10_goesOn 25 (.iload_n 3) 1 26 := by decide +kernel
theorem dX10_goesOn_26 : am_at cX10_goesOn 26 (.ireturn) 1 27 := by decide +kernel
def fxX10_goesOn_b5 : Nat → Option Nat → Int32 → Int32 → Int32 → Int32 → am_H → Option (Int32 × am_H)
  | 0, _, _, _, _, _, _ => none
  | n + 1, l0, l1, l2, l3, l4, h => if l1 ≤ l4 then (some (l3, h)) else (am_gd (am_ob h l0 10) (am_bd (fxX10_day l0 l2 h) (fun r3 h4 => am_lt (l3 + r3) (fun x5 => am_lt (l4 + 1) (fun x6 => fxX10_goesOn_b5 n l0 l1 l2 x5 x6 h4)))))
set_option maxRecDepth 100000 in
theorem sxX10_goesOn_b5 {xs : List Int32} : ∀ (n : Nat) (l0 : Option Nat) (l1 : Int32) (l2 : Int32) (l3 : Int32) (l4 : Int32) (h : am_H), am_Sm xs am_ci mX10_goesOn 4 0 0 5 [some (am_R l0), some (am_I l1), some (am_I l2), some (am_I l3), some (am_I l4)] [] h (fxX10_goesOn_b5 n l0 l1 l2 l3 l4 h) := by
  intro n
  induction n with
  | zero => intros; exact am_none
  | succ n ih =>
    intro l0 l1 l2 l3 l4 h
    rw [fxX10_goesOn_b5]
    refine am_iload dX10_goesOn_5 rfl ?_
    refine am_iload_n dX10_goesOn_7 rfl ?_
    refine am_icmp_ge (tgt := 25) dX10_goesOn_8 (by decide) (fun c7 => ?_) (fun c7 => ?_)
    · refine am_iload_n dX10_goesOn_25 rfl ?_
      exact am_iret dX10_goesOn_26 rfl rfl
    refine am_iload_n dX10_goesOn_11 rfl ?_
    refine am_aload_n dX10_goesOn_12 rfl ?_
    refine am_iload_n dX10_goesOn_13 rfl ?_
    refine am_callV (cvj := am_ci) (mtj := mX10_day) (dj := 3) (nj := 1) (rcj := 0) (rsj := 0) (rc' := 0) (rs' := 0) (ci := 10) (st' := fun a9 => (am_I a9 :: [am_I l3])) ⟨_, rfl, rfl⟩ [am_I l2] [am_I l3] dX10_goesOn_14 okX10_day lk_RX10_177 (fun zA zH zE => txX10_day l0 l2 h zA zH zE) rfl (fun _ => rfl) (by decide) rfl (Nat.le_of_ble_eq_true rfl) (by decide) (by decide) (fun r3 h4 => ?_)
    refine am_iadd dX10_goesOn_17 ?_
    refine am_istore_n (LL := fun y9 => [some (am_R l0), some (am_I l1), some (am_I l2), some (am_I y9), some (am_I l4)]) dX10_goesOn_18 (by decide) (fun _ => rfl) (fun x5 => ?_)
    refine am_iinc (v := 1) (LL := fun y9 => [some (am_R l0), some (am_I l1), some (am_I l2), some (am_I x5), some (am_I y9)]) dX10_goesOn_19 (by decide) rfl (by decide) (fun _ => rfl) (fun x6 => ?_)
    refine am_goto (tgt := 5) dX10_goesOn_22 (by decide) ?_
    exact am_weak (ih l0 l1 l2 x5 x6 h4) ⟨rfl, ⟨rfl, ⟨rfl, ⟨rfl, ⟨rfl, trivial⟩⟩⟩⟩⟩ (Nat.le_refl _) (Nat.le_refl _)
def fxX10_goesOn (l0 : Option Nat) (l1 : Int32) (l2 : Int32) (h : am_H) : Option (Int32 × am_H) := am_lt (0 : Int32) (fun x1 => am_lt (0 : Int32) (fun x2 => fxX10_goesOn_b5 am_F l0 l1 l2 x1 x2 h))
set_option maxRecDepth 100000 in
theorem sxX10_goesOn {xs : List Int32} (l0 : Option Nat) (l1 : Int32) (l2 : Int32) (h : am_H) : am_Sm xs am_ci mX10_goesOn 4 0 0 0 [some (am_R l0), some (am_I l1), some (am_I l2), none, none] [] h (fxX10_goesOn l0 l1 l2 h) := by
  unfold fxX10_goesOn
  refine am_iconst (v := 0) dX10_goesOn_0 (by decide) ?_
  refine am_istore_n (LL := fun y9 => [some (am_R l0), some (am_I l1), some (am_I l2), some (am_I y9), none]) dX10_goesOn_1 (by decide) (fun _ => rfl) (fun x1 => ?_)
  refine am_iconst (v := 0) dX10_goesOn_2 (by decide) ?_
  refine am_istore (LL := fun y9 => [some (am_R l0), some (am_I l1), some (am_I l2), some (am_I x1), some (am_I y9)]) dX10_goesOn_3 (by decide) (fun _ => rfl) (fun x2 => ?_)
  exact am_weak (sxX10_goesOn_b5 am_F l0 l1 l2 x1 x2 h) ⟨rfl, ⟨rfl, ⟨rfl, ⟨rfl, ⟨rfl, trivial⟩⟩⟩⟩⟩ (Nat.le_refl _) (Nat.le_refl _)
theorem txX10_goesOn {xs : List Int32} (l0 : Option Nat) (l1 : Int32) (l2 : Int32) (h : am_H) (a : Int32) (h2 : am_H) (e : fxX10_goesOn l0 l1 l2 h = some (a, h2)) : am_Ct xs mX10_goesOn 4 0 0 [am_R l0, am_I l1, am_I l2] h (fun v h3 => v = am_ci a ∧ h3 = h2) := am_meth okX10_goesOn (Nat.le_of_ble_eq_true rfl) rfl (sxX10_goesOn l0 l1 l2 h) e
theorem dX10_days_0 : am_at cX10_days 0 (.iload_n 1) 1 1 := by decide +kernel
theorem dX10_days_1 : am_at cX10_days 1 (.iconst 1) 1 2 := by decide +kernel
theorem dX10_days_2 : am_at cX10_days 2 (.bipush 100) 2 4 := by decide +kernel
theorem dX10_days_4 : am_at cX10_days 4 (.invokestatic 85) 3 7 := by decide +kernel
theorem dX10_days_7 : am_at cX10_days 7 (.ifCond .eq 26) 3 10 := by decide +kernel
theorem dX10_days_10 : am_at cX10_days 10 (.aload_n 0) 1 11 := by decide +kernel
theorem dX10_days_11 : am_at cX10_days 11 (.sipush 9999) 3 14 := by decide +kernel
theorem dX10_days_14 : am_at cX10_days 14 (.aload_n 0) 1 15 := by decide +kernel
theorem dX10_days_15 : am_at cX10_days 15 (.getfield 9) 3 18 := by decide +kernel
theorem dX10_days_18 : am_at cX10_days 18 (.iconst 2) 1 19 := by decide +kernel
theorem dX10_days_19 : am_at cX10_days 19 (.iaload) 1 20 := by decide +kernel
theorem dX10_days_20 : am_at cX10_days 20 (.isub) 1 21 := by decide +kernel
theorem dX10_days_21 : am_at cX10_days 21 (.iconst 0) 1 22 := by decide +kernel
theorem dX10_days_22 : am_at cX10_days 22 (.iload_n 1) 1 23 := by decide +kernel
theorem dX10_days_23 : am_at cX10_days 23 (.invokestatic 128) 3 26 := by decide +kernel
theorem dX10_days_26 : am_at cX10_days 26 (.iconst (-1)) 1 27 := by decide +kernel
theorem dX10_days_27 : am_at cX10_days 27 (.invokevirtual 180) 3 30 := by decide +kernel
theorem dX10_days_30 : am_at cX10_days 30 (.goto 5) 3 33 := by decide +kernel
theorem dX10_days_33 : am_at cX10_days 33 (.ldc 93) 2 35 := by decide +kernel
theorem dX10_days_35 : am_at cX10_days 35 (.ireturn) 1 36 := by decide +kernel
def fxX10_days (l0 : Option Nat) (l1 : Int32) (h : am_H) : Option (Int32 × am_H) := am_bd (fxX10_in l1 (1 : Int32) (100 : Int32) h) (fun r1 h2 => if r1 = 0 then (some ((-1000000001 : Int32), h2)) else (am_gd (am_ob h2 l0 10) (am_gd (am_ix h2 (am_gr h2 l0 0) 0 (2 : Int32)) (am_bd (fxX10_within ((9999 : Int32) - (am_gi h2 (am_gr h2 l0 0) (2 : Int32).toNatClampNeg)) (0 : Int32) l1 h2) (fun r3 h4 => am_gd (am_ob h4 l0 10) (am_bd (fxX10_goesOn l0 r3 (-1 : Int32) h4) (fun r5 h6 => some (r5, h6))))))))
set_option maxRecDepth 100000 in
theorem sxX10_days {xs : List Int32} (l0 : Option Nat) (l1 : Int32) (h : am_H) : am_Sm xs am_ci mX10_days 5 0 0 0 [some (am_R l0), some (am_I l1)] [] h (fxX10_days l0 l1 h) := by
  unfold fxX10_days
  refine am_iload_n dX10_days_0 rfl ?_
  refine am_iconst (v := 1) dX10_days_1 (by decide) ?_
  refine am_bipush (v := 100) dX10_days_2 (by decide) ?_
  refine am_callS (cvj := am_ci) (mtj := mX10_in) (dj := 0) (nj := 3) (rcj := 0) (rsj := 0) (rc' := 0) (rs' := 0) (st' := fun a9 => (am_I a9 :: [])) [am_I l1, am_I (1 : Int32), am_I (100 : Int32)] [] dX10_days_4 okX10_in lk_RX10_85 (fun zA zH zE => txX10_in l1 (1 : Int32) (100 : Int32) h zA zH zE) rfl (fun _ => rfl) (by decide) rfl (Nat.le_of_ble_eq_true rfl) (by decide) (by decide) (fun r1 h2 => ?_)
  refine am_if_eq (tgt := 33) dX10_days_7 (by decide) (fun c7 => ?_) (fun c7 => ?_)
  · refine am_ldc (v := (-1000000001)) dX10_days_33 wd1060 ?_
    exact am_iret dX10_days_35 rfl rfl
  refine am_aload_n dX10_days_10 rfl ?_
  refine am_sipush (v := 9999) dX10_days_11 (by decide) ?_
  refine am_aload_n dX10_days_14 rfl ?_
  refine am_getR dX10_days_15 fk_RX10_9 rfl ?_
  refine am_iconst (v := 2) dX10_days_18 (by decide) ?_
  refine am_iald dX10_days_19 ?_
  refine am_isub dX10_days_20 ?_
  refine am_iconst (v := 0) dX10_days_21 (by decide) ?_
  refine am_iload_n dX10_days_22 rfl ?_
  refine am_callS (cvj := am_ci) (mtj := mX10_within) (dj := 0) (nj := 3) (rcj := 0) (rsj := 0) (rc' := 0) (rs' := 0) (st' := fun a9 => (am_I a9 :: [am_R l0])) [am_I ((9999 : Int32) - (am_gi h2 (am_gr h2 l0 0) (2 : Int32).toNatClampNeg)), am_I (0 : Int32), am_I l1] [am_R l0] dX10_days_23 okX10_within lk_RX10_128 (fun zA zH zE => txX10_within ((9999 : Int32) - (am_gi h2 (am_gr h2 l0 0) (2 : Int32).toNatClampNeg)) (0 : Int32) l1 h2 zA zH zE) rfl (fun _ => rfl) (by decide) rfl (Nat.le_of_ble_eq_true rfl) (by decide) (by decide) (fun r3 h4 => ?_)
  refine am_iconst (v := (-1)) dX10_days_26 (by decide) ?_
  refine am_callV (cvj := am_ci) (mtj := mX10_goesOn) (dj := 4) (nj := 2) (rcj := 0) (rsj := 0) (rc' := 0) (rs' := 0) (ci := 10) (st' := fun a9 => (am_I a9 :: [])) ⟨_, rfl, rfl⟩ [am_I r3, am_I (-1 : Int32)] [] dX10_days_27 okX10_goesOn lk_RX10_180 (fun zA zH zE => txX10_goesOn l0 r3 (-1 : Int32) h4 zA zH zE) rfl (fun _ => rfl) (by decide) rfl (Nat.le_of_ble_eq_true rfl) (by decide) (by decide) (fun r5 h6 => ?_)
  refine am_goto (tgt := 35) dX10_days_30 (by decide) ?_
  exact am_iret dX10_days_35 rfl rfl
theorem txX10_days {xs : List Int32} (l0 : Option Nat) (l1 : Int32) (h : am_H) (a : Int32) (h2 : am_H) (e : fxX10_days l0 l1 h = some (a, h2)) : am_Ct xs mX10_days 5 0 0 [am_R l0, am_I l1] h (fun v h3 => v = am_ci a ∧ h3 = h2) := am_meth okX10_days (Nat.le_of_ble_eq_true rfl) rfl (sxX10_days l0 l1 h) e
theorem dX10_thinks_0 : am_at cX10_thinks 0 (.iconst 0) 1 1 := by decide +kernel
theorem dX10_thinks_1 : am_at cX10_thinks 1 (.istore_n 1) 1 2 := by decide +kernel
theorem dX10_thinks_2 : am_at cX10_thinks 2 (.iload_n 1) 1 3 := by decide +kernel
theorem dX10_thinks_3 : am_at cX10_thinks 3 (.bipush 76) 2 5 := by decide +kernel
theorem dX10_thinks_5 : am_at cX10_thinks 5 (.if_icmp .ge 21) 3 8 := by decide +kernel
theorem dX10_thinks_8 : am_at cX10_thinks 8 (.aload_n 0) 1 9 := by decide +kernel
theorem dX10_thinks_9 : am_at cX10_thinks 9 (.getfield 25) 3 12 := by decide +kernel
theorem dX10_thinks_12 : am_at cX10_thinks 12 (.iload_n 1) 1 13 := by decide +kernel
theorem dX10_thinks_13 : am_at cX10_thinks 13 (.aload_n 0) 1 14 := by decide +kernel
theorem dX10_thinks_14 : am_at cX10_thinks 14 (.getfield 9) 3 17 := by decide +kernel
theorem dX10_thinks_17 : am_at cX10_thinks 17 (.iload_n 1) 1 18 := by decide +kernel
theorem dX10_thinks_18 : am_at cX10_thinks 18 (.iaload) 1 19 := by decide +kernel
theorem dX10_thinks_19 : am_at cX10_thinks 19 (.iastore) 1 20 := by decide +kernel
theorem dX10_thinks_20 : am_at cX10_thinks 20 (.iinc 1 1) 3 23 := by decide +kernel
theorem dX10_thinks_23 : am_at cX10_thinks 23 (.goto (-21)) 3 26 := by decide +kernel
theorem dX10_thinks_26 : am_at cX10_thinks 26 (.return_) 1 27 := by decide +kernel
def fxX10_thinks_b2 : Nat → Option Nat → Int32 → am_H → Option (Unit × am_H)
  | 0, _, _, _ => none
  | n + 1, l0, l1, h => if (76 : Int32) ≤ l1 then (some ((), h)) else (am_gd (am_ob h l0 10) (am_gd (am_ob h l0 10) (am_gd (am_ix h (am_gr h l0 0) 0 l1) (am_gd (am_ix h (am_gr h l0 6) 0 l1) (am_lt (am_si h (am_gr h l0 6) l1.toNatClampNeg (am_gi h (am_gr h l0 0) l1.toNatClampNeg)) (fun h2 => am_lt (l1 + 1) (fun x3 => fxX10_thinks_b2 n l0 x3 h2)))))))
set_option maxRecDepth 100000 in
theorem sxX10_thinks_b2 {xs : List Int32} : ∀ (n : Nat) (l0 : Option Nat) (l1 : Int32) (h : am_H), am_Sm xs am_cu mX10_thinks 0 0 0 2 [some (am_R l0), some (am_I l1)] [] h (fxX10_thinks_b2 n l0 l1 h) := by
  intro n
  induction n with
  | zero => intros; exact am_none
  | succ n ih =>
    intro l0 l1 h
    rw [fxX10_thinks_b2]
    refine am_iload_n dX10_thinks_2 rfl ?_
    refine am_bipush (v := 76) dX10_thinks_3 (by decide) ?_
    refine am_icmp_ge (tgt := 26) dX10_thinks_5 (by decide) (fun c4 => ?_) (fun c4 => ?_)
    · exact am_vret dX10_thinks_26 rfl rfl
    refine am_aload_n dX10_thinks_8 rfl ?_
    refine am_getR dX10_thinks_9 fk_RX10_25 rfl ?_
    refine am_iload_n dX10_thinks_12 rfl ?_
    refine am_aload_n dX10_thinks_13 rfl ?_
    refine am_getR dX10_thinks_14 fk_RX10_9 rfl ?_
    refine am_iload_n dX10_thinks_17 rfl ?_
    refine am_iald dX10_thinks_18 ?_
    refine am_iast dX10_thinks_19 (fun h2 => ?_)
    refine am_iinc (v := 1) (LL := fun y9 => [some (am_R l0), some (am_I y9)]) dX10_thinks_20 (by decide) rfl (by decide) (fun _ => rfl) (fun x3 => ?_)
    refine am_goto (tgt := 2) dX10_thinks_23 (by decide) ?_
    exact am_weak (ih l0 x3 h2) ⟨rfl, ⟨rfl, trivial⟩⟩ (Nat.le_refl _) (Nat.le_refl _)
def fxX10_thinks (l0 : Option Nat) (h : am_H) : Option (Unit × am_H) := am_lt (0 : Int32) (fun x1 => fxX10_thinks_b2 am_F l0 x1 h)
set_option maxRecDepth 100000 in
theorem sxX10_thinks {xs : List Int32} (l0 : Option Nat) (h : am_H) : am_Sm xs am_cu mX10_thinks 0 0 0 0 [some (am_R l0), none] [] h (fxX10_thinks l0 h) := by
  unfold fxX10_thinks
  refine am_iconst (v := 0) dX10_thinks_0 (by decide) ?_
  refine am_istore_n (LL := fun y9 => [some (am_R l0), some (am_I y9)]) dX10_thinks_1 (by decide) (fun _ => rfl) (fun x1 => ?_)
  exact am_weak (sxX10_thinks_b2 am_F l0 x1 h) ⟨rfl, ⟨rfl, trivial⟩⟩ (Nat.le_refl _) (Nat.le_refl _)
theorem txX10_thinks {xs : List Int32} (l0 : Option Nat) (h : am_H) (a : Unit) (h2 : am_H) (e : fxX10_thinks l0 h = some (a, h2)) : am_Ct xs mX10_thinks 0 0 0 [am_R l0] h (fun v h3 => v = am_cu a ∧ h3 = h2) := am_meth okX10_thinks (Nat.le_of_ble_eq_true rfl) rfl (sxX10_thinks l0 h) e
theorem dX10_putsBack_0 : am_at cX10_putsBack 0 (.iconst 0) 1 1 := by decide +kernel
theorem dX10_putsBack_1 : am_at cX10_putsBack 1 (.istore_n 1) 1 2 := by decide +kernel
theorem dX10_putsBack_2 : am_at cX10_putsBack 2 (.iload_n 1) 1 3 := by decide +kernel
theorem dX10_putsBack_3 : am_at cX10_putsBack 3 (.bipush 76) 2 5 := by decide +kernel
theorem dX10_putsBack_5 : am_at cX10_putsBack 5 (.if_icmp .ge 21) 3 8 := by decide +kernel
theorem dX10_putsBack_8 : am_at cX10_putsBack 8 (.aload_n 0) 1 9 := by decide +kernel
theorem dX10_putsBack_9 : am_at cX10_putsBack 9 (.getfield 9) 3 12 := by decide +kernel
theorem dX10_putsBack_12 : am_at cX10_putsBack 12 (.iload_n 1) 1 13 := by decide +kernel
theorem dX10_putsBack_13 : am_at cX10_putsBack 13 (.aload_n 0) 1 14 := by decide +kernel
theorem dX10_putsBack_14 : am_at cX10_putsBack 14 (.getfield 25) 3 17 := by decide +kernel
theorem dX10_putsBack_17 : am_at cX10_putsBack 17 (.iload_n 1) 1 18 := by decide +kernel
theorem dX10_putsBack_18 : am_at cX10_putsBack 18 (.iaload) 1 19 := by decide +kernel
theorem dX10_putsBack_19 : am_at cX10_putsBack 19 (.iastore) 1 20 := by decide +kernel
theorem dX10_putsBack_20 : am_at cX10_putsBack 20 (.iinc 1 1) 3 23 := by decide +kernel
theorem dX10_putsBack_23 : am_at cX10_putsBack 23 (.goto (-21)) 3 26 := by decide +kernel
theorem dX10_putsBack_26 : am_at cX10_putsBack 26 (.return_) 1 27 := by decide +kernel
def fxX10_putsBack_b2 : Nat → Option Nat → Int32 → am_H → Option (Unit × am_H)
  | 0, _, _, _ => none
  | n + 1, l0, l1, h => if (76 : Int32) ≤ l1 then (some ((), h)) else (am_gd (am_ob h l0 10) (am_gd (am_ob h l0 10) (am_gd (am_ix h (am_gr h l0 6) 0 l1) (am_gd (am_ix h (am_gr h l0 0) 0 l1) (am_lt (am_si h (am_gr h l0 0) l1.toNatClampNeg (am_gi h (am_gr h l0 6) l1.toNatClampNeg)) (fun h2 => am_lt (l1 + 1) (fun x3 => fxX10_putsBack_b2 n l0 x3 h2)))))))
set_option maxRecDepth 100000 in
theorem sxX10_putsBack_b2 {xs : List Int32} : ∀ (n : Nat) (l0 : Option Nat) (l1 : Int32) (h : am_H), am_Sm xs am_cu mX10_putsBack 0 0 0 2 [some (am_R l0), some (am_I l1)] [] h (fxX10_putsBack_b2 n l0 l1 h) := by
  intro n
  induction n with
  | zero => intros; exact am_none
  | succ n ih =>
    intro l0 l1 h
    rw [fxX10_putsBack_b2]
    refine am_iload_n dX10_putsBack_2 rfl ?_
    refine am_bipush (v := 76) dX10_putsBack_3 (by decide) ?_
    refine am_icmp_ge (tgt := 26) dX10_putsBack_5 (by decide) (fun c4 => ?_) (fun c4 => ?_)
    · exact am_vret dX10_putsBack_26 rfl rfl
    refine am_aload_n dX10_putsBack_8 rfl ?_
    refine am_getR dX10_putsBack_9 fk_RX10_9 rfl ?_
    refine am_iload_n dX10_putsBack_12 rfl ?_
    refine am_aload_n dX10_putsBack_13 rfl ?_
    refine am_getR dX10_putsBack_14 fk_RX10_25 rfl ?_
    refine am_iload_n dX10_putsBack_17 rfl ?_
    refine am_iald dX10_putsBack_18 ?_
    refine am_iast dX10_putsBack_19 (fun h2 => ?_)
    refine am_iinc (v := 1) (LL := fun y9 => [some (am_R l0), some (am_I y9)]) dX10_putsBack_20 (by decide) rfl (by decide) (fun _ => rfl) (fun x3 => ?_)
    refine am_goto (tgt := 2) dX10_putsBack_23 (by decide) ?_
    exact am_weak (ih l0 x3 h2) ⟨rfl, ⟨rfl, trivial⟩⟩ (Nat.le_refl _) (Nat.le_refl _)
def fxX10_putsBack (l0 : Option Nat) (h : am_H) : Option (Unit × am_H) := am_lt (0 : Int32) (fun x1 => fxX10_putsBack_b2 am_F l0 x1 h)
set_option maxRecDepth 100000 in
theorem sxX10_putsBack {xs : List Int32} (l0 : Option Nat) (h : am_H) : am_Sm xs am_cu mX10_putsBack 0 0 0 0 [some (am_R l0), none] [] h (fxX10_putsBack l0 h) := by
  unfold fxX10_putsBack
  refine am_iconst (v := 0) dX10_putsBack_0 (by decide) ?_
  refine am_istore_n (LL := fun y9 => [some (am_R l0), some (am_I y9)]) dX10_putsBack_1 (by decide) (fun _ => rfl) (fun x1 => ?_)
  exact am_weak (sxX10_putsBack_b2 am_F l0 x1 h) ⟨rfl, ⟨rfl, trivial⟩⟩ (Nat.le_refl _) (Nat.le_refl _)
theorem txX10_putsBack {xs : List Int32} (l0 : Option Nat) (h : am_H) (a : Unit) (h2 : am_H) (e : fxX10_putsBack l0 h = some (a, h2)) : am_Ct xs mX10_putsBack 0 0 0 [am_R l0] h (fun v h3 => v = am_cu a ∧ h3 = h2) := am_meth okX10_putsBack (Nat.le_of_ble_eq_true rfl) rfl (sxX10_putsBack l0 h) e
theorem dX10_lostMany_0 : am_at cX10_lostMany 0 (.iconst 0) 1 1 := by decide +kernel
theorem dX10_lostMany_1 : am_at cX10_lostMany 1 (.istore_n 1) 1 2 := by decide +kernel
theorem dX10_lostMany_2 : am_at cX10_lostMany 2 (.iconst 0) 1 3 := by decide +kernel
theorem dX10_lostMany_3 : am_at cX10_lostMany 3 (.istore_n 2) 1 4 := by decide +kernel
theorem dX10_lostMany_4 : am_at cX10_lostMany 4 (.iload_n 2) 1 5 := by decide +kernel
theorem dX10_lostMany_5 : am_at cX10_lostMany 5 (.aload_n 0) 1 6 := by decide +kernel
theorem dX10_lostMany_6 : am_at cX10_lostMany 6 (.getfield 9) 3 9 := by decide +kernel
theorem dX10_lostMany_9 : am_at cX10_lostMany 9 (.iconst 1) 1 10 := by decide +kernel
theorem dX10_lostMany_10 : am_at cX10_lostMany 10 (.iaload) 1 11 := by decide +kernel
theorem dX10_lostMany_11 : am_at cX10_lostMany 11 (.if_icmp .ge 18) 3 14 := by decide +kernel
theorem dX10_lostMany_14 : am_at cX10_lostMany 14 (.iload_n 1) 1 15 := by decide +kernel
theorem dX10_lostMany_15 : am_at cX10_lostMany 15 (.aload_n 0) 1 16 := by decide +kernel
theorem dX10_lostMany_16 : am_at cX10_lostMany 16 (.iload_n 2) 1 17 := by decide +kernel
theorem dX10_lostMany_17 : am_at cX10_lostMany 17 (.iconst 5) 1 18 := by decide +kernel
theorem dX10_lostMany_18 : am_at cX10_lostMany 18 (.invokevirtual 99) 3 21 := by decide +kernel
theorem dX10_lostMany_21 : am_at cX10_lostMany 21 (.iadd) 1 22 := by decide +kernel
theorem dX10_lostMany_22 : am_at cX10_lostMany 22 (.istore_n 1) 1 23 := by decide +kernel
theorem dX10_lostMany_23 : am_at cX10_lostMany 23 (.iinc 2 1) 3 26 := by decide +kernel
theorem dX10_lostMany_26 : am_at cX10_lostMany 26 (.goto (-22)) 3 29 := by decide +kernel
theorem dX10_lostMany_29 : am_at cX10_lostMany 29 (.iload_n 1) 1 30 := by decide +kernel
theorem dX10_lostMany_30 : am_at cX10_lostMany 30 (.ireturn) 1 31 := by decide +kernel
def fxX10_lostMany_b4 : Nat → Option Nat → Int32 → Int32 → am_H → Option (Int32 × am_H)
  | 0, _, _, _, _ => none
  | n + 1, l0, l1, l2, h => am_gd (am_ob h l0 10) (am_gd (am_ix h (am_gr h l0 0) 0 (1 : Int32)) (if (am_gi h (am_gr h l0 0) (1 : Int32).toNatClampNeg) ≤ l2 then (some (l1, h)) else (am_gd (am_ob h l0 10) (am_bd (fxX10_of l0 l2 (5 : Int32) h) (fun r3 h4 => am_lt (l1 + r3) (fun x5 => am_lt (l2 + 1) (fun x6 => fxX10_lostMany_b4 n l0 x5 x6 h4)))))))
set_option maxRecDepth 100000 in
theorem sxX10_lostMany_b4 {xs : List Int32} : ∀ (n : Nat) (l0 : Option Nat) (l1 : Int32) (l2 : Int32) (h : am_H), am_Sm xs am_ci mX10_lostMany 1 0 0 4 [some (am_R l0), some (am_I l1), some (am_I l2)] [] h (fxX10_lostMany_b4 n l0 l1 l2 h) := by
  intro n
  induction n with
  | zero => intros; exact am_none
  | succ n ih =>
    intro l0 l1 l2 h
    rw [fxX10_lostMany_b4]
    refine am_iload_n dX10_lostMany_4 rfl ?_
    refine am_aload_n dX10_lostMany_5 rfl ?_
    refine am_getR dX10_lostMany_6 fk_RX10_9 rfl ?_
    refine am_iconst (v := 1) dX10_lostMany_9 (by decide) ?_
    refine am_iald dX10_lostMany_10 ?_
    refine am_icmp_ge (tgt := 29) dX10_lostMany_11 (by decide) (fun c7 => ?_) (fun c7 => ?_)
    · refine am_iload_n dX10_lostMany_29 rfl ?_
      exact am_iret dX10_lostMany_30 rfl rfl
    refine am_iload_n dX10_lostMany_14 rfl ?_
    refine am_aload_n dX10_lostMany_15 rfl ?_
    refine am_iload_n dX10_lostMany_16 rfl ?_
    refine am_iconst (v := 5) dX10_lostMany_17 (by decide) ?_
    refine am_callV (cvj := am_ci) (mtj := mX10_of) (dj := 0) (nj := 2) (rcj := 0) (rsj := 0) (rc' := 0) (rs' := 0) (ci := 10) (st' := fun a9 => (am_I a9 :: [am_I l1])) ⟨_, rfl, rfl⟩ [am_I l2, am_I (5 : Int32)] [am_I l1] dX10_lostMany_18 okX10_of lk_RX10_99 (fun zA zH zE => txX10_of l0 l2 (5 : Int32) h zA zH zE) rfl (fun _ => rfl) (by decide) rfl (Nat.le_of_ble_eq_true rfl) (by decide) (by decide) (fun r3 h4 => ?_)
    refine am_iadd dX10_lostMany_21 ?_
    refine am_istore_n (LL := fun y9 => [some (am_R l0), some (am_I y9), some (am_I l2)]) dX10_lostMany_22 (by decide) (fun _ => rfl) (fun x5 => ?_)
    refine am_iinc (v := 1) (LL := fun y9 => [some (am_R l0), some (am_I x5), some (am_I y9)]) dX10_lostMany_23 (by decide) rfl (by decide) (fun _ => rfl) (fun x6 => ?_)
    refine am_goto (tgt := 4) dX10_lostMany_26 (by decide) ?_
    exact am_weak (ih l0 x5 x6 h4) ⟨rfl, ⟨rfl, ⟨rfl, trivial⟩⟩⟩ (Nat.le_refl _) (Nat.le_refl _)
def fxX10_lostMany (l0 : Option Nat) (h : am_H) : Option (Int32 × am_H) := am_lt (0 : Int32) (fun x1 => am_lt (0 : Int32) (fun x2 => fxX10_lostMany_b4 am_F l0 x1 x2 h))
set_option maxRecDepth 100000 in
theorem sxX10_lostMany {xs : List Int32} (l0 : Option Nat) (h : am_H) : am_Sm xs am_ci mX10_lostMany 1 0 0 0 [some (am_R l0), none, none] [] h (fxX10_lostMany l0 h) := by
  unfold fxX10_lostMany
  refine am_iconst (v := 0) dX10_lostMany_0 (by decide) ?_
  refine am_istore_n (LL := fun y9 => [some (am_R l0), some (am_I y9), none]) dX10_lostMany_1 (by decide) (fun _ => rfl) (fun x1 => ?_)
  refine am_iconst (v := 0) dX10_lostMany_2 (by decide) ?_
  refine am_istore_n (LL := fun y9 => [some (am_R l0), some (am_I x1), some (am_I y9)]) dX10_lostMany_3 (by decide) (fun _ => rfl) (fun x2 => ?_)
  exact am_weak (sxX10_lostMany_b4 am_F l0 x1 x2 h) ⟨rfl, ⟨rfl, ⟨rfl, trivial⟩⟩⟩ (Nat.le_refl _) (Nat.le_refl _)
theorem txX10_lostMany {xs : List Int32} (l0 : Option Nat) (h : am_H) (a : Int32) (h2 : am_H) (e : fxX10_lostMany l0 h = some (a, h2)) : am_Ct xs mX10_lostMany 1 0 0 [am_R l0] h (fun v h3 => v = am_ci a ∧ h3 = h2) := am_meth okX10_lostMany (Nat.le_of_ble_eq_true rfl) rfl (sxX10_lostMany l0 h) e
theorem dX10_wearAll_0 : am_at cX10_wearAll 0 (.iconst 0) 1 1 := by decide +kernel
theorem dX10_wearAll_1 : am_at cX10_wearAll 1 (.istore_n 1) 1 2 := by decide +kernel
theorem dX10_wearAll_2 : am_at cX10_wearAll 2 (.iconst 0) 1 3 := by decide +kernel
theorem dX10_wearAll_3 : am_at cX10_wearAll 3 (.istore_n 2) 1 4 := by decide +kernel
theorem dX10_wearAll_4 : am_at cX10_wearAll 4 (.iload_n 2) 1 5 := by decide +kernel
theorem dX10_wearAll_5 : am_at cX10_wearAll 5 (.aload_n 0) 1 6 := by decide +kernel
theorem dX10_wearAll_6 : am_at cX10_wearAll 6 (.getfield 9) 3 9 := by decide +kernel
theorem dX10_wearAll_9 : am_at cX10_wearAll 9 (.iconst 1) 1 10 := by decide +kernel
theorem dX10_wearAll_10 : am_at cX10_wearAll 10 (.iaload) 1 11 := by decide +kernel
theorem dX10_wearAll_11 : am_at cX10_wearAll 11 (.if_icmp .ge 31) 3 14 := by decide +kernel
theorem dX10_wearAll_14 : am_at cX10_wearAll 14 (.iload_n 1) 1 15 := by decide +kernel
theorem dX10_wearAll_15 : am_at cX10_wearAll 15 (.aload_n 0) 1 16 := by decide +kernel
theorem dX10_wearAll_16 : am_at cX10_wearAll 16 (.iload_n 2) 1 17 := by decide +kernel
theorem dX10_wearAll_17 : am_at cX10_wearAll 17 (.iconst 5) 1 18 := by decide +kernel
theorem dX10_wearAll_18 : am_at cX10_wearAll 18 (.invokevirtual 99) 3 21 := by decide +kernel
theorem dX10_wearAll_21 : am_at cX10_wearAll 21 (.ifCond .ne 12) 3 24 := by decide +kernel
theorem dX10_wearAll_24 : am_at cX10_wearAll 24 (.aload_n 0) 1 25 := by decide +kernel
theorem dX10_wearAll_25 : am_at cX10_wearAll 25 (.iload_n 2) 1 26 := by decide +kernel
theorem dX10_wearAll_26 : am_at cX10_wearAll 26 (.iconst 4) 1 27 := by decide +kernel
theorem dX10_wearAll_27 : am_at cX10_wearAll 27 (.invokevirtual 99) 3 30 := by decide +kernel
theorem dX10_wearAll_30 : am_at cX10_wearAll 30 (.goto 4) 3 33 := by decide +kernel
theorem dX10_wearAll_33 : am_at cX10_wearAll 33 (.iconst 0) 1 34 := by decide +kernel
theorem dX10_wearAll_34 : am_at cX10_wearAll 34 (.iadd) 1 35 := by decide +kernel
theorem dX10_wearAll_35 : am_at cX10_wearAll 35 (.istore_n 1) 1 36 := by decide +kernel
theorem dX10_wearAll_36 : am_at cX10_wearAll 36 (.iinc 2 1) 3 39 := by decide +kernel
theorem dX10_wearAll_39 : am_at cX10_wearAll 39 (.goto (-35)) 3 42 := by decide +kernel
theorem dX10_wearAll_42 : am_at cX10_wearAll 42 (.iload_n 1) 1 43 := by decide +kernel
theorem dX10_wearAll_43 : am_at cX10_wearAll 43 (.ireturn) 1 44 := by decide +kernel
def fxX10_wearAll_b34 (k4 : Option Nat → Int32 → Int32 → am_H → Option (Int32 × am_H)) (l0 : Option Nat) (l2 : Int32) (s0 : Int32) (s1 : Int32) (h : am_H) : Option (Int32 × am_H) := am_lt (s1 + s0) (fun x9 => am_lt (l2 + 1) (fun x10 => k4 l0 x9 x10 h))
set_option maxRecDepth 100000 in
theorem sxX10_wearAll_b34 {xs : List Int32} (k4 : Option Nat → Int32 → Int32 → am_H → Option (Int32 × am_H)) (hk4 : ∀ (l0 : Option Nat) (l1 : Int32) (l2 : Int32) (h : am_H), am_Sm xs am_ci mX10_wearAll 1 0 0 4 [some (am_R l0), some (am_I l1), some (am_I l2)] [] h (k4 l0 l1 l2 h)) (l0 : Option Nat) (l2 : Int32) (s0 : Int32) (s1 : Int32) (h : am_H) : am_Sm xs am_ci mX10_wearAll 1 0 0 34 [some (am_R l0), none, some (am_I l2)] [am_I s0, am_I s1] h (fxX10_wearAll_b34 k4 l0 l2 s0 s1 h) := by
  unfold fxX10_wearAll_b34
  refine am_iadd dX10_wearAll_34 ?_
  refine am_istore_n (LL := fun y9 => [some (am_R l0), some (am_I y9), some (am_I l2)]) dX10_wearAll_35 (by decide) (fun _ => rfl) (fun x9 => ?_)
  refine am_iinc (v := 1) (LL := fun y9 => [some (am_R l0), some (am_I x9), some (am_I y9)]) dX10_wearAll_36 (by decide) rfl (by decide) (fun _ => rfl) (fun x10 => ?_)
  refine am_goto (tgt := 4) dX10_wearAll_39 (by decide) ?_
  exact am_weak (hk4 l0 x9 x10 h) ⟨rfl, ⟨rfl, ⟨rfl, trivial⟩⟩⟩ (Nat.le_refl _) (Nat.le_refl _)
def fxX10_wearAll_b4 : Nat → Option Nat → Int32 → Int32 → am_H → Option (Int32 × am_H)
  | 0, _, _, _, _ => none
  | n + 1, l0, l1, l2, h => am_gd (am_ob h l0 10) (am_gd (am_ix h (am_gr h l0 0) 0 (1 : Int32)) (if (am_gi h (am_gr h l0 0) (1 : Int32).toNatClampNeg) ≤ l2 then (some (l1, h)) else (am_gd (am_ob h l0 10) (am_bd (fxX10_of l0 l2 (5 : Int32) h) (fun r3 h4 => if r3 = 0 then (am_gd (am_ob h4 l0 10) (am_bd (fxX10_of l0 l2 (4 : Int32) h4) (fun r5 h6 => fxX10_wearAll_b34 (fxX10_wearAll_b4 n) l0 l2 r5 l1 h6))) else (fxX10_wearAll_b34 (fxX10_wearAll_b4 n) l0 l2 (0 : Int32) l1 h4))))))
set_option maxRecDepth 100000 in
theorem sxX10_wearAll_b4 {xs : List Int32} : ∀ (n : Nat) (l0 : Option Nat) (l1 : Int32) (l2 : Int32) (h : am_H), am_Sm xs am_ci mX10_wearAll 1 0 0 4 [some (am_R l0), some (am_I l1), some (am_I l2)] [] h (fxX10_wearAll_b4 n l0 l1 l2 h) := by
  intro n
  induction n with
  | zero => intros; exact am_none
  | succ n ih =>
    intro l0 l1 l2 h
    rw [fxX10_wearAll_b4]
    refine am_iload_n dX10_wearAll_4 rfl ?_
    refine am_aload_n dX10_wearAll_5 rfl ?_
    refine am_getR dX10_wearAll_6 fk_RX10_9 rfl ?_
    refine am_iconst (v := 1) dX10_wearAll_9 (by decide) ?_
    refine am_iald dX10_wearAll_10 ?_
    refine am_icmp_ge (tgt := 42) dX10_wearAll_11 (by decide) (fun c8 => ?_) (fun c8 => ?_)
    · refine am_iload_n dX10_wearAll_42 rfl ?_
      exact am_iret dX10_wearAll_43 rfl rfl
    refine am_iload_n dX10_wearAll_14 rfl ?_
    refine am_aload_n dX10_wearAll_15 rfl ?_
    refine am_iload_n dX10_wearAll_16 rfl ?_
    refine am_iconst (v := 5) dX10_wearAll_17 (by decide) ?_
    refine am_callV (cvj := am_ci) (mtj := mX10_of) (dj := 0) (nj := 2) (rcj := 0) (rsj := 0) (rc' := 0) (rs' := 0) (ci := 10) (st' := fun a9 => (am_I a9 :: [am_I l1])) ⟨_, rfl, rfl⟩ [am_I l2, am_I (5 : Int32)] [am_I l1] dX10_wearAll_18 okX10_of lk_RX10_99 (fun zA zH zE => txX10_of l0 l2 (5 : Int32) h zA zH zE) rfl (fun _ => rfl) (by decide) rfl (Nat.le_of_ble_eq_true rfl) (by decide) (by decide) (fun r3 h4 => ?_)
    refine am_if_ne (tgt := 33) dX10_wearAll_21 (by decide) (fun c7 => ?_) (fun c7 => ?_)
    · refine am_iconst (v := 0) dX10_wearAll_33 (by decide) ?_
      exact am_weak (sxX10_wearAll_b34 (fxX10_wearAll_b4 n) ih l0 l2 (0 : Int32) l1 h4) ⟨rfl, ⟨rfl, trivial⟩⟩ (Nat.le_refl _) (Nat.le_refl _)
    refine am_aload_n dX10_wearAll_24 rfl ?_
    refine am_iload_n dX10_wearAll_25 rfl ?_
    refine am_iconst (v := 4) dX10_wearAll_26 (by decide) ?_
    refine am_callV (cvj := am_ci) (mtj := mX10_of) (dj := 0) (nj := 2) (rcj := 0) (rsj := 0) (rc' := 0) (rs' := 0) (ci := 10) (st' := fun a9 => (am_I a9 :: [am_I l1])) ⟨_, rfl, rfl⟩ [am_I l2, am_I (4 : Int32)] [am_I l1] dX10_wearAll_27 okX10_of lk_RX10_99 (fun zA zH zE => txX10_of l0 l2 (4 : Int32) h4 zA zH zE) rfl (fun _ => rfl) (by decide) rfl (Nat.le_of_ble_eq_true rfl) (by decide) (by decide) (fun r5 h6 => ?_)
    refine am_goto (tgt := 34) dX10_wearAll_30 (by decide) ?_
    exact am_weak (sxX10_wearAll_b34 (fxX10_wearAll_b4 n) ih l0 l2 r5 l1 h6) ⟨rfl, ⟨rfl, trivial⟩⟩ (Nat.le_refl _) (Nat.le_refl _)
def fxX10_wearAll (l0 : Option Nat) (h : am_H) : Option (Int32 × am_H) := am_lt (0 : Int32) (fun x1 => am_lt (0 : Int32) (fun x2 => fxX10_wearAll_b4 am_F l0 x1 x2 h))
set_option maxRecDepth 100000 in
theorem sxX10_wearAll {xs : List Int32} (l0 : Option Nat) (h : am_H) : am_Sm xs am_ci mX10_wearAll 1 0 0 0 [some (am_R l0), none, none] [] h (fxX10_wearAll l0 h) := by
  unfold fxX10_wearAll
  refine am_iconst (v := 0) dX10_wearAll_0 (by decide) ?_
  refine am_istore_n (LL := fun y9 => [some (am_R l0), some (am_I y9), none]) dX10_wearAll_1 (by decide) (fun _ => rfl) (fun x1 => ?_)
  refine am_iconst (v := 0) dX10_wearAll_2 (by decide) ?_
  refine am_istore_n (LL := fun y9 => [some (am_R l0), some (am_I x1), some (am_I y9)]) dX10_wearAll_3 (by decide) (fun _ => rfl) (fun x2 => ?_)
  exact am_weak (sxX10_wearAll_b4 am_F l0 x1 x2 h) ⟨rfl, ⟨rfl, ⟨rfl, trivial⟩⟩⟩ (Nat.le_refl _) (Nat.le_refl _)
theorem txX10_wearAll {xs : List Int32} (l0 : Option Nat) (h : am_H) (a : Int32) (h2 : am_H) (e : fxX10_wearAll l0 h = some (a, h2)) : am_Ct xs mX10_wearAll 1 0 0 [am_R l0] h (fun v h3 => v = am_ci a ∧ h3 = h2) := am_meth okX10_wearAll (Nat.le_of_ble_eq_true rfl) rfl (sxX10_wearAll l0 h) e
theorem dX10_bestOfAll_0 : am_at cX10_bestOfAll 0 (.aload_n 0) 1 1 := by decide +kernel
theorem dX10_bestOfAll_1 : am_at cX10_bestOfAll 1 (.invokevirtual 155) 3 4 := by decide +kernel
theorem dX10_bestOfAll_4 : am_at cX10_bestOfAll 4 (.aload_n 0) 1 5 := by decide +kernel
theorem dX10_bestOfAll_5 : am_at cX10_bestOfAll 5 (.getfield 22) 3 8 := by decide +kernel
theorem dX10_bestOfAll_8 : am_at cX10_bestOfAll 8 (.aload_n 0) 1 9 := by decide +kernel
theorem dX10_bestOfAll_9 : am_at cX10_bestOfAll 9 (.invokevirtual 152) 3 12 := by decide +kernel
theorem dX10_bestOfAll_12 : am_at cX10_bestOfAll 12 (.iaload) 1 13 := by decide +kernel
theorem dX10_bestOfAll_13 : am_at cX10_bestOfAll 13 (.ireturn) 1 14 := by decide +kernel
def fxX10_bestOfAll (l0 : Option Nat) (h : am_H) : Option (Int32 × am_H) := am_gd (am_ob h l0 10) (am_bd (fxX10_findBests l0 h) (fun _ h1 => am_gd (am_ob h1 l0 10) (am_gd (am_ob h1 l0 10) (am_bd (fxX10_all l0 h1) (fun r2 h3 => am_gd (am_ix h3 (am_gr h1 l0 5) 0 r2) (some ((am_gi h3 (am_gr h1 l0 5) r2.toNatClampNeg), h3)))))))
set_option maxRecDepth 100000 in
theorem sxX10_bestOfAll {xs : List Int32} (l0 : Option Nat) (h : am_H) : am_Sm xs am_ci mX10_bestOfAll 4 0 0 0 [some (am_R l0)] [] h (fxX10_bestOfAll l0 h) := by
  unfold fxX10_bestOfAll
  refine am_aload_n dX10_bestOfAll_0 rfl ?_
  refine am_callV (cvj := am_cu) (mtj := mX10_findBests) (dj := 3) (nj := 0) (rcj := 0) (rsj := 0) (rc' := 0) (rs' := 0) (ci := 10) (st' := fun _ => []) ⟨_, rfl, rfl⟩ [] [] dX10_bestOfAll_1 okX10_findBests lk_RX10_155 (fun zA zH zE => txX10_findBests l0 h zA zH zE) rfl (fun _ => rfl) (by decide) rfl (Nat.le_of_ble_eq_true rfl) (by decide) (by decide) (fun _ h1 => ?_)
  refine am_aload_n dX10_bestOfAll_4 rfl ?_
  refine am_getR dX10_bestOfAll_5 fk_RX10_22 rfl ?_
  refine am_aload_n dX10_bestOfAll_8 rfl ?_
  refine am_callV (cvj := am_ci) (mtj := mX10_all) (dj := 0) (nj := 0) (rcj := 0) (rsj := 0) (rc' := 0) (rs' := 0) (ci := 10) (st' := fun a9 => (am_I a9 :: [am_R (am_gr h1 l0 5)])) ⟨_, rfl, rfl⟩ [] [am_R (am_gr h1 l0 5)] dX10_bestOfAll_9 okX10_all lk_RX10_152 (fun zA zH zE => txX10_all l0 h1 zA zH zE) rfl (fun _ => rfl) (by decide) rfl (Nat.le_of_ble_eq_true rfl) (by decide) (by decide) (fun r2 h3 => ?_)
  refine am_iald dX10_bestOfAll_12 ?_
  exact am_iret dX10_bestOfAll_13 rfl rfl
theorem txX10_bestOfAll {xs : List Int32} (l0 : Option Nat) (h : am_H) (a : Int32) (h2 : am_H) (e : fxX10_bestOfAll l0 h = some (a, h2)) : am_Ct xs mX10_bestOfAll 4 0 0 [am_R l0] h (fun v h3 => v = am_ci a ∧ h3 = h2) := am_meth okX10_bestOfAll (Nat.le_of_ble_eq_true rfl) rfl (sxX10_bestOfAll l0 h) e
theorem dX10_behind_0 : am_at cX10_behind 0 (.iload_n 1) 1 1 := by decide +kernel
theorem dX10_behind_1 : am_at cX10_behind 1 (.iconst 0) 1 2 := by decide +kernel
theorem dX10_behind_2 : am_at cX10_behind 2 (.bipush 100) 2 4 := by decide +kernel
theorem dX10_behind_4 : am_at cX10_behind 4 (.invokestatic 85) 3 7 := by decide +kernel
theorem dX10_behind_7 : am_at cX10_behind 7 (.ifCond .eq 12) 3 10 := by decide +kernel
theorem dX10_behind_10 : am_at cX10_behind 10 (.iload_n 2) 1 11 := by decide +kernel
theorem dX10_behind_11 : am_at cX10_behind 11 (.iconst 0) 1 12 := by decide +kernel
theorem dX10_behind_12 : am_at cX10_behind 12 (.iconst 2) 1 13 := by decide +kernel
theorem dX10_behind_13 : am_at cX10_behind 13 (.invokestatic 85) 3 16 := by decide +kernel
theorem dX10_behind_16 : am_at cX10_behind 16 (.ifCond .ne 6) 3 19 := by decide +kernel
theorem dX10_behind_19 : am_at cX10_behind 19 (.ldc 93) 2 21 := by decide +kernel
theorem dX10_behind_21 : am_at cX10_behind 21 (.ireturn) 1 22 := by decide +kernel
theorem dX10_behind_22 : am_at cX10_behind 22 (.aload_n 0) 1 23 := by decide +kernel
theorem dX10_behind_23 : am_at cX10_behind 23 (.invokevirtual 183) 3 26 := by decide +kernel
theorem dX10_behind_26 : am_at cX10_behind 26 (.aload_n 0) 1 27 := by decide +kernel
theorem dX10_behind_27 : am_at cX10_behind 27 (.iload_n 1) 1 28 := by decide +kernel
theorem dX10_behind_28 : am_at cX10_behind 28 (.iconst (-1)) 1 29 := by decide +kernel
theorem dX10_behind_29 : am_at cX10_behind 29 (.invokevirtual 180) 3 32 := by decide +kernel
theorem dX10_behind_32 : am_at cX10_behind 32 (.istore_n 3) 1 33 := by decide +kernel
theorem dX10_behind_33 : am_at cX10_behind 33 (.iload_n 2) 1 34 := by decide +kernel
theorem dX10_behind_34 : am_at cX10_behind 34 (.ifCond .ne 10) 3 37 := by decide +kernel
theorem dX10_behind_37 : am_at cX10_behind 37 (.aload_n 0) 1 38 := by decide +kernel
theorem dX10_behind_38 : am_at cX10_behind 38 (.invokevirtual 186) 3 41 := by decide +kernel
theorem dX10_behind_41 : am_at cX10_behind 41 (.goto 19) 3 44 := by decide +kernel
theorem dX10_behind_44 : am_at cX10_behind 44 (.iload_n 2) 1 45 := by decide +kernel
theorem dX10_behind_45 : am_at cX10_behind 45 (.iconst 1) 1 46 := by decide +kernel
theorem dX10_behind_46 : am_at cX10_behind 46 (.if_icmp .ne 10) 3 49 := by decide +kernel
theorem dX10_behind_49 : am_at cX10_behind 49 (.aload_n 0) 1 50 := by decide +kernel
theorem dX10_behind_50 : am_at cX10_behind 50 (.invokevirtual 189) 3 53 := by decide +kernel
theorem dX10_behind_53 : am_at cX10_behind 53 (.goto 7) 3 56 := by decide +kernel
theorem dX10_behind_56 : am_at cX10_behind 56 (.aload_n 0) 1 57 := by decide +kernel
theorem dX10_behind_57 : am_at cX10_behind 57 (.invokevirtual 192) 3 60 := by decide +kernel
theorem dX10_behind_60 : am_at cX10_behind 60 (.istore 4) 2 62 := by decide +kernel
theorem dX10_behind_62 : am_at cX10_behind 62 (.aload_n 0) 1 63 := by decide +kernel
theorem dX10_behind_63 : am_at cX10_behind 63 (.invokevirtual 195) 3 66 := by decide +kernel
theorem dX10_behind_66 : am_at cX10_behind 66 (.iload 4) 2 68 := by decide +kernel
theorem dX10_behind_68 : am_at cX10_behind 68 (.ireturn) 1 69 := by decide +kernel
def fxX10_behind_b60 (l0 : Option Nat) (s0 : Int32) (h : am_H) : Option (Int32 × am_H) := am_lt s0 (fun x19 => am_gd (am_ob h l0 10) (am_bd (fxX10_putsBack l0 h) (fun _ h20 => some (x19, h20))))
set_option maxRecDepth 100000 in
theorem sxX10_behind_b60 {xs : List Int32} (l0 : Option Nat) (s0 : Int32) (h : am_H) : am_Sm xs am_ci mX10_behind 5 0 0 60 [some (am_R l0), none, none, none, none] [am_I s0] h (fxX10_behind_b60 l0 s0 h) := by
  unfold fxX10_behind_b60
  refine am_istore (LL := fun y9 => [some (am_R l0), none, none, none, some (am_I y9)]) dX10_behind_60 (by decide) (fun _ => rfl) (fun x19 => ?_)
  refine am_aload_n dX10_behind_62 rfl ?_
  refine am_callV (cvj := am_cu) (mtj := mX10_putsBack) (dj := 0) (nj := 0) (rcj := 0) (rsj := 0) (rc' := 0) (rs' := 0) (ci := 10) (st' := fun _ => []) ⟨_, rfl, rfl⟩ [] [] dX10_behind_63 okX10_putsBack lk_RX10_195 (fun zA zH zE => txX10_putsBack l0 h zA zH zE) rfl (fun _ => rfl) (by decide) rfl (Nat.le_of_ble_eq_true rfl) (by decide) (by decide) (fun _ h20 => ?_)
  refine am_iload dX10_behind_66 rfl ?_
  exact am_iret dX10_behind_68 rfl rfl
def fxX10_behind (l0 : Option Nat) (l1 : Int32) (l2 : Int32) (h : am_H) : Option (Int32 × am_H) := am_bd (fxX10_in l1 (0 : Int32) (100 : Int32) h) (fun r1 h2 => if r1 = 0 then (some ((-1000000001 : Int32), h2)) else (am_bd (fxX10_in l2 (0 : Int32) (2 : Int32) h2) (fun r3 h4 => if r3 = 0 then (some ((-1000000001 : Int32), h4)) else (am_gd (am_ob h4 l0 10) (am_bd (fxX10_thinks l0 h4) (fun _ h5 => am_gd (am_ob h5 l0 10) (am_bd (fxX10_goesOn l0 l1 (-1 : Int32) h5) (fun r6 h7 => am_lt r6 (fun x8 => if l2 = 0 then (am_gd (am_ob h7 l0 10) (am_bd (fxX10_bestOfAll l0 h7) (fun r14 h15 => fxX10_behind_b60 l0 r14 h15))) else (if l2 = (1 : Int32) then (am_gd (am_ob h7 l0 10) (am_bd (fxX10_lostMany l0 h7) (fun r11 h12 => fxX10_behind_b60 l0 r11 h12))) else (am_gd (am_ob h7 l0 10) (am_bd (fxX10_wearAll l0 h7) (fun r9 h10 => fxX10_behind_b60 l0 r9 h10)))))))))))))
set_option maxRecDepth 100000 in
theorem sxX10_behind {xs : List Int32} (l0 : Option Nat) (l1 : Int32) (l2 : Int32) (h : am_H) : am_Sm xs am_ci mX10_behind 5 0 0 0 [some (am_R l0), some (am_I l1), some (am_I l2), none, none] [] h (fxX10_behind l0 l1 l2 h) := by
  unfold fxX10_behind
  refine am_iload_n dX10_behind_0 rfl ?_
  refine am_iconst (v := 0) dX10_behind_1 (by decide) ?_
  refine am_bipush (v := 100) dX10_behind_2 (by decide) ?_
  refine am_callS (cvj := am_ci) (mtj := mX10_in) (dj := 0) (nj := 3) (rcj := 0) (rsj := 0) (rc' := 0) (rs' := 0) (st' := fun a9 => (am_I a9 :: [])) [am_I l1, am_I (0 : Int32), am_I (100 : Int32)] [] dX10_behind_4 okX10_in lk_RX10_85 (fun zA zH zE => txX10_in l1 (0 : Int32) (100 : Int32) h zA zH zE) rfl (fun _ => rfl) (by decide) rfl (Nat.le_of_ble_eq_true rfl) (by decide) (by decide) (fun r1 h2 => ?_)
  refine am_if_eq (tgt := 19) dX10_behind_7 (by decide) (fun c18 => ?_) (fun c18 => ?_)
  · refine am_ldc (v := (-1000000001)) dX10_behind_19 wd1060 ?_
    exact am_iret dX10_behind_21 rfl rfl
  refine am_iload_n dX10_behind_10 rfl ?_
  refine am_iconst (v := 0) dX10_behind_11 (by decide) ?_
  refine am_iconst (v := 2) dX10_behind_12 (by decide) ?_
  refine am_callS (cvj := am_ci) (mtj := mX10_in) (dj := 0) (nj := 3) (rcj := 0) (rsj := 0) (rc' := 0) (rs' := 0) (st' := fun a9 => (am_I a9 :: [])) [am_I l2, am_I (0 : Int32), am_I (2 : Int32)] [] dX10_behind_13 okX10_in lk_RX10_85 (fun zA zH zE => txX10_in l2 (0 : Int32) (2 : Int32) h2 zA zH zE) rfl (fun _ => rfl) (by decide) rfl (Nat.le_of_ble_eq_true rfl) (by decide) (by decide) (fun r3 h4 => ?_)
  refine am_if_ne (tgt := 22) dX10_behind_16 (by decide) (fun c17 => ?_) (fun c17 => ?_)
  · refine am_aload_n dX10_behind_22 rfl ?_
    refine am_callV (cvj := am_cu) (mtj := mX10_thinks) (dj := 0) (nj := 0) (rcj := 0) (rsj := 0) (rc' := 0) (rs' := 0) (ci := 10) (st' := fun _ => []) ⟨_, rfl, rfl⟩ [] [] dX10_behind_23 okX10_thinks lk_RX10_183 (fun zA zH zE => txX10_thinks l0 h4 zA zH zE) rfl (fun _ => rfl) (by decide) rfl (Nat.le_of_ble_eq_true rfl) (by decide) (by decide) (fun _ h5 => ?_)
    refine am_aload_n dX10_behind_26 rfl ?_
    refine am_iload_n dX10_behind_27 rfl ?_
    refine am_iconst (v := (-1)) dX10_behind_28 (by decide) ?_
    refine am_callV (cvj := am_ci) (mtj := mX10_goesOn) (dj := 4) (nj := 2) (rcj := 0) (rsj := 0) (rc' := 0) (rs' := 0) (ci := 10) (st' := fun a9 => (am_I a9 :: [])) ⟨_, rfl, rfl⟩ [am_I l1, am_I (-1 : Int32)] [] dX10_behind_29 okX10_goesOn lk_RX10_180 (fun zA zH zE => txX10_goesOn l0 l1 (-1 : Int32) h5 zA zH zE) rfl (fun _ => rfl) (by decide) rfl (Nat.le_of_ble_eq_true rfl) (by decide) (by decide) (fun r6 h7 => ?_)
    refine am_istore_n (LL := fun y9 => [some (am_R l0), some (am_I l1), some (am_I l2), some (am_I y9), none]) dX10_behind_32 (by decide) (fun _ => rfl) (fun x8 => ?_)
    refine am_iload_n dX10_behind_33 rfl ?_
    refine am_if_ne (tgt := 44) dX10_behind_34 (by decide) (fun c16 => ?_) (fun c16 => ?_)
    · refine am_iload_n dX10_behind_44 rfl ?_
      refine am_iconst (v := 1) dX10_behind_45 (by decide) ?_
      refine am_icmp_ne (tgt := 56) dX10_behind_46 (by decide) (fun c13 => ?_) (fun c13 => ?_)
      · refine am_aload_n dX10_behind_56 rfl ?_
        refine am_callV (cvj := am_ci) (mtj := mX10_wearAll) (dj := 1) (nj := 0) (rcj := 0) (rsj := 0) (rc' := 0) (rs' := 0) (ci := 10) (st' := fun a9 => (am_I a9 :: [])) ⟨_, rfl, rfl⟩ [] [] dX10_behind_57 okX10_wearAll lk_RX10_192 (fun zA zH zE => txX10_wearAll l0 h7 zA zH zE) rfl (fun _ => rfl) (by decide) rfl (Nat.le_of_ble_eq_true rfl) (by decide) (by decide) (fun r9 h10 => ?_)
        exact am_weak (sxX10_behind_b60 l0 r9 h10) ⟨rfl, trivial⟩ (Nat.le_refl _) (Nat.le_refl _)
      refine am_aload_n dX10_behind_49 rfl ?_
      refine am_callV (cvj := am_ci) (mtj := mX10_lostMany) (dj := 1) (nj := 0) (rcj := 0) (rsj := 0) (rc' := 0) (rs' := 0) (ci := 10) (st' := fun a9 => (am_I a9 :: [])) ⟨_, rfl, rfl⟩ [] [] dX10_behind_50 okX10_lostMany lk_RX10_189 (fun zA zH zE => txX10_lostMany l0 h7 zA zH zE) rfl (fun _ => rfl) (by decide) rfl (Nat.le_of_ble_eq_true rfl) (by decide) (by decide) (fun r11 h12 => ?_)
      refine am_goto (tgt := 60) dX10_behind_53 (by decide) ?_
      exact am_weak (sxX10_behind_b60 l0 r11 h12) ⟨rfl, trivial⟩ (Nat.le_refl _) (Nat.le_refl _)
    refine am_aload_n dX10_behind_37 rfl ?_
    refine am_callV (cvj := am_ci) (mtj := mX10_bestOfAll) (dj := 4) (nj := 0) (rcj := 0) (rsj := 0) (rc' := 0) (rs' := 0) (ci := 10) (st' := fun a9 => (am_I a9 :: [])) ⟨_, rfl, rfl⟩ [] [] dX10_behind_38 okX10_bestOfAll lk_RX10_186 (fun zA zH zE => txX10_bestOfAll l0 h7 zA zH zE) rfl (fun _ => rfl) (by decide) rfl (Nat.le_of_ble_eq_true rfl) (by decide) (by decide) (fun r14 h15 => ?_)
    refine am_goto (tgt := 60) dX10_behind_41 (by decide) ?_
    exact am_weak (sxX10_behind_b60 l0 r14 h15) ⟨rfl, trivial⟩ (Nat.le_refl _) (Nat.le_refl _)
  refine am_ldc (v := (-1000000001)) dX10_behind_19 wd1060 ?_
  exact am_iret dX10_behind_21 rfl rfl
theorem txX10_behind {xs : List Int32} (l0 : Option Nat) (l1 : Int32) (l2 : Int32) (h : am_H) (a : Int32) (h2 : am_H) (e : fxX10_behind l0 l1 l2 h = some (a, h2)) : am_Ct xs mX10_behind 5 0 0 [am_R l0, am_I l1, am_I l2] h (fun v h3 => v = am_ci a ∧ h3 = h2) := am_meth okX10_behind (Nat.le_of_ble_eq_true rfl) rfl (sxX10_behind l0 l1 l2 h) e
