/-! ===== pointers and shapes, one row each ===== -/
theorem zo0 {lp : Nat} {M : Mem} : am_ob (hp lp M) (some 0) 9 = true := Eq.trans rfl rfl
theorem zp0_0 {lp : Nat} {M : Mem} : am_gr (hp lp M) (some 0) 0 = some 1 := Eq.trans rfl rfl
theorem zp0_1 {lp : Nat} {M : Mem} : am_gr (hp lp M) (some 0) 1 = some 16 := Eq.trans rfl rfl
theorem zp0_2 {lp : Nat} {M : Mem} : am_gr (hp lp M) (some 0) 2 = some 31 := Eq.trans rfl rfl
theorem zp0_4 {lp : Nat} {M : Mem} : am_gr (hp lp M) (some 0) 4 = some 46 := Eq.trans rfl rfl
theorem zp0_5 {lp : Nat} {M : Mem} : am_gr (hp lp M) (some 0) 5 = some 79 := Eq.trans rfl rfl
theorem zp0_6 {lp : Nat} {M : Mem} : am_gr (hp lp M) (some 0) 6 = some 83 := Eq.trans rfl rfl
theorem zp0_7 {lp : Nat} {M : Mem} : am_gr (hp lp M) (some 0) 7 = some 87 := Eq.trans rfl rfl
theorem zp0_8 {lp : Nat} {M : Mem} : am_gr (hp lp M) (some 0) 8 = some 90 := Eq.trans rfl rfl
theorem zp0_9 {lp : Nat} {M : Mem} : am_gr (hp lp M) (some 0) 9 = some 99 := Eq.trans rfl rfl
theorem zp0_10 {lp : Nat} {M : Mem} : am_gr (hp lp M) (some 0) 10 = some 120 := Eq.trans rfl rfl
theorem zo1 {lp : Nat} {M : Mem} : am_ob (hp lp M) (some 1) 2 = true := Eq.trans rfl rfl
theorem zp1_0 {lp : Nat} {M : Mem} : am_gr (hp lp M) (some 1) 0 = some 2 := Eq.trans rfl rfl
theorem zp1_5 {lp : Nat} {M : Mem} : am_gr (hp lp M) (some 1) 5 = some 13 := Eq.trans rfl rfl
theorem zp1_6 {lp : Nat} {M : Mem} : am_gr (hp lp M) (some 1) 6 = some 14 := Eq.trans rfl rfl
theorem zp1_9 {lp : Nat} {M : Mem} : am_gr (hp lp M) (some 1) 9 = some 15 := Eq.trans rfl rfl
theorem zo16 {lp : Nat} {M : Mem} : am_ob (hp lp M) (some 16) 2 = true := Eq.trans rfl rfl
theorem zp16_0 {lp : Nat} {M : Mem} : am_gr (hp lp M) (some 16) 0 = some 17 := Eq.trans rfl rfl
theorem zp16_5 {lp : Nat} {M : Mem} : am_gr (hp lp M) (some 16) 5 = some 28 := Eq.trans rfl rfl
theorem zp16_6 {lp : Nat} {M : Mem} : am_gr (hp lp M) (some 16) 6 = some 29 := Eq.trans rfl rfl
theorem zp16_9 {lp : Nat} {M : Mem} : am_gr (hp lp M) (some 16) 9 = some 30 := Eq.trans rfl rfl
theorem zo31 {lp : Nat} {M : Mem} : am_ob (hp lp M) (some 31) 2 = true := Eq.trans rfl rfl
theorem zp31_0 {lp : Nat} {M : Mem} : am_gr (hp lp M) (some 31) 0 = some 32 := Eq.trans rfl rfl
theorem zp31_5 {lp : Nat} {M : Mem} : am_gr (hp lp M) (some 31) 5 = some 43 := Eq.trans rfl rfl
theorem zp31_6 {lp : Nat} {M : Mem} : am_gr (hp lp M) (some 31) 6 = some 44 := Eq.trans rfl rfl
theorem zp31_9 {lp : Nat} {M : Mem} : am_gr (hp lp M) (some 31) 9 = some 45 := Eq.trans rfl rfl
theorem zo46 {lp : Nat} {M : Mem} : am_ob (hp lp M) (some 46) 0 = true := Eq.trans rfl rfl
theorem zp46_0 {lp : Nat} {M : Mem} : am_gr (hp lp M) (some 46) 0 = some 47 := Eq.trans rfl rfl
theorem zp46_1 {lp : Nat} {M : Mem} : am_gr (hp lp M) (some 46) 1 = some 76 := Eq.trans rfl rfl
theorem zp46_2 {lp : Nat} {M : Mem} : am_gr (hp lp M) (some 46) 2 = some 78 := Eq.trans rfl rfl
theorem zo79 {lp : Nat} {M : Mem} : am_ob (hp lp M) (some 79) 8 = true := Eq.trans rfl rfl
theorem zp79_0 {lp : Nat} {M : Mem} : am_gr (hp lp M) (some 79) 0 = some 80 := Eq.trans rfl rfl
theorem zo83 {lp : Nat} {M : Mem} : am_ob (hp lp M) (some 83) 7 = true := Eq.trans rfl rfl
theorem zp83_0 {lp : Nat} {M : Mem} : am_gr (hp lp M) (some 83) 0 = some 84 := Eq.trans rfl rfl
theorem zp83_1 {lp : Nat} {M : Mem} : am_gr (hp lp M) (some 83) 1 = some 85 := Eq.trans rfl rfl
theorem zp83_2 {lp : Nat} {M : Mem} : am_gr (hp lp M) (some 83) 2 = some 86 := Eq.trans rfl rfl
theorem zo87 {lp : Nat} {M : Mem} : am_ob (hp lp M) (some 87) 4 = true := Eq.trans rfl rfl
theorem zp87_0 {lp : Nat} {M : Mem} : am_gr (hp lp M) (some 87) 0 = some 88 := Eq.trans rfl rfl
theorem zp87_1 {lp : Nat} {M : Mem} : am_gr (hp lp M) (some 87) 1 = some 89 := Eq.trans rfl rfl
theorem zo121 {lp : Nat} {M : Mem} : am_ob (hp lp M) (some 121) 10 = true := Eq.trans rfl rfl
theorem zp121_0 {lp : Nat} {M : Mem} : am_gr (hp lp M) (some 121) 0 = some 122 := Eq.trans rfl rfl
theorem zp121_1 {lp : Nat} {M : Mem} : am_gr (hp lp M) (some 121) 1 = some 123 := Eq.trans rfl rfl
theorem zp121_2 {lp : Nat} {M : Mem} : am_gr (hp lp M) (some 121) 2 = some 124 := Eq.trans rfl rfl
theorem zp121_4 {lp : Nat} {M : Mem} : am_gr (hp lp M) (some 121) 4 = some 125 := Eq.trans rfl rfl
theorem zp121_5 {lp : Nat} {M : Mem} : am_gr (hp lp M) (some 121) 5 = some 126 := Eq.trans rfl rfl
theorem zp121_6 {lp : Nat} {M : Mem} : am_gr (hp lp M) (some 121) 6 = some 127 := Eq.trans rfl rfl
theorem zp121_7 {lp : Nat} {M : Mem} : am_gr (hp lp M) (some 121) 7 = some 128 := Eq.trans rfl rfl
theorem zp121_8 {lp : Nat} {M : Mem} : am_gr (hp lp M) (some 121) 8 = some 129 := Eq.trans rfl rfl
theorem zp121_16 {lp : Nat} {M : Mem} : am_gr (hp lp M) (some 121) 16 = some 130 := Eq.trans rfl rfl
theorem zp121_17 {lp : Nat} {M : Mem} : am_gr (hp lp M) (some 121) 17 = some 131 := Eq.trans rfl rfl
theorem zp121_18 {lp : Nat} {M : Mem} : am_gr (hp lp M) (some 121) 18 = some 132 := Eq.trans rfl rfl
theorem zp121_21 {lp : Nat} {M : Mem} : am_gr (hp lp M) (some 121) 21 = some 133 := Eq.trans rfl rfl
theorem zp121_23 {lp : Nat} {M : Mem} : am_gr (hp lp M) (some 121) 23 = some 134 := Eq.trans rfl rfl
theorem zp121_24 {lp : Nat} {M : Mem} : am_gr (hp lp M) (some 121) 24 = some 135 := Eq.trans rfl rfl
theorem zp121_25 {lp : Nat} {M : Mem} : am_gr (hp lp M) (some 121) 25 = some 136 := Eq.trans rfl rfl
theorem zp121_26 {lp : Nat} {M : Mem} : am_gr (hp lp M) (some 121) 26 = some 137 := Eq.trans rfl rfl
theorem zp121_27 {lp : Nat} {M : Mem} : am_gr (hp lp M) (some 121) 27 = some 138 := Eq.trans rfl rfl
theorem zp121_28 {lp : Nat} {M : Mem} : am_gr (hp lp M) (some 121) 28 = some 139 := Eq.trans rfl rfl
theorem zp121_29 {lp : Nat} {M : Mem} : am_gr (hp lp M) (some 121) 29 = some 140 := Eq.trans rfl rfl
theorem zp121_30 {lp : Nat} {M : Mem} : am_gr (hp lp M) (some 121) 30 = some 141 := Eq.trans rfl rfl
theorem zp121_31 {lp : Nat} {M : Mem} : am_gr (hp lp M) (some 121) 31 = some 142 := Eq.trans rfl rfl
theorem zp121_32 {lp : Nat} {M : Mem} : am_gr (hp lp M) (some 121) 32 = some 143 := Eq.trans rfl rfl
theorem zp121_33 {lp : Nat} {M : Mem} : am_gr (hp lp M) (some 121) 33 = some 144 := Eq.trans rfl rfl
theorem zp121_34 {lp : Nat} {M : Mem} : am_gr (hp lp M) (some 121) 34 = some 145 := Eq.trans rfl rfl
theorem zp79_2 {lp : Nat} {M : Mem} : am_gr (hp lp M) (some 79) 2 = some lp := Eq.trans rfl rfl
theorem zx2 {lp : Nat} {M : Mem} {i : Int32} : am_ix (hp lp M) (some 2) 3 i = am_in i 10 := Eq.trans rfl rfl
theorem zx13 {lp : Nat} {M : Mem} {i : Int32} : am_ix (hp lp M) (some 13) 0 i = am_in i 10 := Eq.trans rfl rfl
theorem zx14 {lp : Nat} {M : Mem} {i : Int32} : am_ix (hp lp M) (some 14) 0 i = am_in i 10 := Eq.trans rfl rfl
theorem zx15 {lp : Nat} {M : Mem} {i : Int32} : am_ix (hp lp M) (some 15) 0 i = am_in i 3 := Eq.trans rfl rfl
theorem zx17 {lp : Nat} {M : Mem} {i : Int32} : am_ix (hp lp M) (some 17) 3 i = am_in i 10 := Eq.trans rfl rfl
theorem zx28 {lp : Nat} {M : Mem} {i : Int32} : am_ix (hp lp M) (some 28) 0 i = am_in i 10 := Eq.trans rfl rfl
theorem zx29 {lp : Nat} {M : Mem} {i : Int32} : am_ix (hp lp M) (some 29) 0 i = am_in i 10 := Eq.trans rfl rfl
theorem zx30 {lp : Nat} {M : Mem} {i : Int32} : am_ix (hp lp M) (some 30) 0 i = am_in i 3 := Eq.trans rfl rfl
theorem zx32 {lp : Nat} {M : Mem} {i : Int32} : am_ix (hp lp M) (some 32) 3 i = am_in i 10 := Eq.trans rfl rfl
theorem zx43 {lp : Nat} {M : Mem} {i : Int32} : am_ix (hp lp M) (some 43) 0 i = am_in i 10 := Eq.trans rfl rfl
theorem zx44 {lp : Nat} {M : Mem} {i : Int32} : am_ix (hp lp M) (some 44) 0 i = am_in i 10 := Eq.trans rfl rfl
theorem zx45 {lp : Nat} {M : Mem} {i : Int32} : am_ix (hp lp M) (some 45) 0 i = am_in i 3 := Eq.trans rfl rfl
theorem zx47 {lp : Nat} {M : Mem} {i : Int32} : am_ix (hp lp M) (some 47) 4 i = am_in i 14 := Eq.trans rfl rfl
theorem zx78 {lp : Nat} {M : Mem} {i : Int32} : am_ix (hp lp M) (some 78) 0 i = am_in i 96 := Eq.trans rfl rfl
theorem zx80 {lp : Nat} {M : Mem} {i : Int32} : am_ix (hp lp M) (some 80) 0 i = am_in i 96 := Eq.trans rfl rfl
theorem zx84 {lp : Nat} {M : Mem} {i : Int32} : am_ix (hp lp M) (some 84) 0 i = am_in i 100 := Eq.trans rfl rfl
theorem zx85 {lp : Nat} {M : Mem} {i : Int32} : am_ix (hp lp M) (some 85) 0 i = am_in i 1024 := Eq.trans rfl rfl
theorem zx86 {lp : Nat} {M : Mem} {i : Int32} : am_ix (hp lp M) (some 86) 0 i = am_in i 10 := Eq.trans rfl rfl
theorem zx88 {lp : Nat} {M : Mem} {i : Int32} : am_ix (hp lp M) (some 88) 0 i = am_in i 600 := Eq.trans rfl rfl
theorem zx89 {lp : Nat} {M : Mem} {i : Int32} : am_ix (hp lp M) (some 89) 0 i = am_in i 25 := Eq.trans rfl rfl
theorem zx90 {lp : Nat} {M : Mem} {i : Int32} : am_ix (hp lp M) (some 90) 5 i = am_in i 4 := Eq.trans rfl rfl
theorem zx99 {lp : Nat} {M : Mem} {i : Int32} : am_ix (hp lp M) (some 99) 6 i = am_in i 5 := Eq.trans rfl rfl
theorem zx120 {lp : Nat} {M : Mem} {i : Int32} : am_ix (hp lp M) (some 120) 0 i = am_in i 60 := Eq.trans rfl rfl
theorem zx122 {lp : Nat} {M : Mem} {i : Int32} : am_ix (hp lp M) (some 122) 0 i = am_in i 1448 := Eq.trans rfl rfl
theorem zx123 {lp : Nat} {M : Mem} {i : Int32} : am_ix (hp lp M) (some 123) 0 i = am_in i 1448 := Eq.trans rfl rfl
theorem zx124 {lp : Nat} {M : Mem} {i : Int32} : am_ix (hp lp M) (some 124) 0 i = am_in i 1448 := Eq.trans rfl rfl
theorem zx125 {lp : Nat} {M : Mem} {i : Int32} : am_ix (hp lp M) (some 125) 0 i = am_in i 100 := Eq.trans rfl rfl
theorem zx126 {lp : Nat} {M : Mem} {i : Int32} : am_ix (hp lp M) (some 126) 0 i = am_in i 1024 := Eq.trans rfl rfl
theorem zx127 {lp : Nat} {M : Mem} {i : Int32} : am_ix (hp lp M) (some 127) 0 i = am_in i 76 := Eq.trans rfl rfl
theorem zx128 {lp : Nat} {M : Mem} {i : Int32} : am_ix (hp lp M) (some 128) 0 i = am_in i 25 := Eq.trans rfl rfl
theorem zx129 {lp : Nat} {M : Mem} {i : Int32} : am_ix (hp lp M) (some 129) 0 i = am_in i 96 := Eq.trans rfl rfl
theorem zx130 {lp : Nat} {M : Mem} {i : Int32} : am_ix (hp lp M) (some 130) 1 i = am_in i 12 := Eq.trans rfl rfl
theorem zx131 {lp : Nat} {M : Mem} {i : Int32} : am_ix (hp lp M) (some 131) 0 i = am_in i 4 := Eq.trans rfl rfl
theorem zx132 {lp : Nat} {M : Mem} {i : Int32} : am_ix (hp lp M) (some 132) 0 i = am_in i 96 := Eq.trans rfl rfl
theorem zx133 {lp : Nat} {M : Mem} {i : Int32} : am_ix (hp lp M) (some 133) 0 i = am_in i 96 := Eq.trans rfl rfl
theorem zx134 {lp : Nat} {M : Mem} {i : Int32} : am_ix (hp lp M) (some 134) 2 i = am_in i 10 := Eq.trans rfl rfl
theorem zx135 {lp : Nat} {M : Mem} {i : Int32} : am_ix (hp lp M) (some 135) 0 i = am_in i 96 := Eq.trans rfl rfl
theorem zx136 {lp : Nat} {M : Mem} {i : Int32} : am_ix (hp lp M) (some 136) 0 i = am_in i 4 := Eq.trans rfl rfl
theorem zx137 {lp : Nat} {M : Mem} {i : Int32} : am_ix (hp lp M) (some 137) 0 i = am_in i 4 := Eq.trans rfl rfl
theorem zx138 {lp : Nat} {M : Mem} {i : Int32} : am_ix (hp lp M) (some 138) 0 i = am_in i 4 := Eq.trans rfl rfl
theorem zx139 {lp : Nat} {M : Mem} {i : Int32} : am_ix (hp lp M) (some 139) 0 i = am_in i 96 := Eq.trans rfl rfl
theorem zx140 {lp : Nat} {M : Mem} {i : Int32} : am_ix (hp lp M) (some 140) 0 i = am_in i 5 := Eq.trans rfl rfl
theorem zx141 {lp : Nat} {M : Mem} {i : Int32} : am_ix (hp lp M) (some 141) 0 i = am_in i 5 := Eq.trans rfl rfl
theorem zx142 {lp : Nat} {M : Mem} {i : Int32} : am_ix (hp lp M) (some 142) 0 i = am_in i 5 := Eq.trans rfl rfl
theorem zx143 {lp : Nat} {M : Mem} {i : Int32} : am_ix (hp lp M) (some 143) 0 i = am_in i 120 := Eq.trans rfl rfl
theorem zx144 {lp : Nat} {M : Mem} {i : Int32} : am_ix (hp lp M) (some 144) 0 i = am_in i 24 := Eq.trans rfl rfl
theorem zx145 {lp : Nat} {M : Mem} {i : Int32} : am_ix (hp lp M) (some 145) 0 i = am_in i 60 := Eq.trans rfl rfl
theorem zg2 {lp i : Nat} {M : Mem} (hi : i < 10) : am_gr (hp lp M) (some 2) i = some (3 + i) := by
  rcases (show i = 0 ∨ i = 1 ∨ i = 2 ∨ i = 3 ∨ i = 4 ∨ i = 5 ∨ i = 6 ∨ i = 7 ∨ i = 8 ∨ i = 9 by omega) with rfl | rfl | rfl | rfl | rfl | rfl | rfl | rfl | rfl | rfl <;> rfl
theorem zg17 {lp i : Nat} {M : Mem} (hi : i < 10) : am_gr (hp lp M) (some 17) i = some (18 + i) := by
  rcases (show i = 0 ∨ i = 1 ∨ i = 2 ∨ i = 3 ∨ i = 4 ∨ i = 5 ∨ i = 6 ∨ i = 7 ∨ i = 8 ∨ i = 9 by omega) with rfl | rfl | rfl | rfl | rfl | rfl | rfl | rfl | rfl | rfl <;> rfl
theorem zg32 {lp i : Nat} {M : Mem} (hi : i < 10) : am_gr (hp lp M) (some 32) i = some (33 + i) := by
  rcases (show i = 0 ∨ i = 1 ∨ i = 2 ∨ i = 3 ∨ i = 4 ∨ i = 5 ∨ i = 6 ∨ i = 7 ∨ i = 8 ∨ i = 9 by omega) with rfl | rfl | rfl | rfl | rfl | rfl | rfl | rfl | rfl | rfl <;> rfl
theorem zgo3 {lp i : Nat} {M : Mem} (hi : i < 10) : am_ob (hp lp M) (some (3 + i)) 1 = true := by
  rcases (show i = 0 ∨ i = 1 ∨ i = 2 ∨ i = 3 ∨ i = 4 ∨ i = 5 ∨ i = 6 ∨ i = 7 ∨ i = 8 ∨ i = 9 by omega) with rfl | rfl | rfl | rfl | rfl | rfl | rfl | rfl | rfl | rfl <;> rfl
theorem zgo18 {lp i : Nat} {M : Mem} (hi : i < 10) : am_ob (hp lp M) (some (18 + i)) 1 = true := by
  rcases (show i = 0 ∨ i = 1 ∨ i = 2 ∨ i = 3 ∨ i = 4 ∨ i = 5 ∨ i = 6 ∨ i = 7 ∨ i = 8 ∨ i = 9 by omega) with rfl | rfl | rfl | rfl | rfl | rfl | rfl | rfl | rfl | rfl <;> rfl
theorem zgo33 {lp i : Nat} {M : Mem} (hi : i < 10) : am_ob (hp lp M) (some (33 + i)) 1 = true := by
  rcases (show i = 0 ∨ i = 1 ∨ i = 2 ∨ i = 3 ∨ i = 4 ∨ i = 5 ∨ i = 6 ∨ i = 7 ∨ i = 8 ∨ i = 9 by omega) with rfl | rfl | rfl | rfl | rfl | rfl | rfl | rfl | rfl | rfl <;> rfl
theorem zl47 {lp i : Nat} {M : Mem} (hi : i < 14) : am_gr (hp lp M) (some 47) i = some (48 + 2 * i) := by
  rcases (show i = 0 ∨ i = 1 ∨ i = 2 ∨ i = 3 ∨ i = 4 ∨ i = 5 ∨ i = 6 ∨ i = 7 ∨ i = 8 ∨ i = 9 ∨ i = 10 ∨ i = 11 ∨ i = 12 ∨ i = 13 by omega) with rfl | rfl | rfl | rfl | rfl | rfl | rfl | rfl | rfl | rfl | rfl | rfl | rfl | rfl <;> rfl
theorem zlo {lp i : Nat} {M : Mem} (hi : i < 15) : am_ob (hp lp M) (some (48 + 2 * i)) 3 = true := by
  rcases (show i = 0 ∨ i = 1 ∨ i = 2 ∨ i = 3 ∨ i = 4 ∨ i = 5 ∨ i = 6 ∨ i = 7 ∨ i = 8 ∨ i = 9 ∨ i = 10 ∨ i = 11 ∨ i = 12 ∨ i = 13 ∨ i = 14 by omega) with rfl | rfl | rfl | rfl | rfl | rfl | rfl | rfl | rfl | rfl | rfl | rfl | rfl | rfl | rfl <;> rfl
theorem zlp {lp i : Nat} {M : Mem} (hi : i < 15) : am_gr (hp lp M) (some (48 + 2 * i)) 2 = some (49 + 2 * i) := by
  rcases (show i = 0 ∨ i = 1 ∨ i = 2 ∨ i = 3 ∨ i = 4 ∨ i = 5 ∨ i = 6 ∨ i = 7 ∨ i = 8 ∨ i = 9 ∨ i = 10 ∨ i = 11 ∨ i = 12 ∨ i = 13 ∨ i = 14 by omega) with rfl | rfl | rfl | rfl | rfl | rfl | rfl | rfl | rfl | rfl | rfl | rfl | rfl | rfl | rfl <;> rfl
theorem zlx {lp i : Nat} {M : Mem} {x : Int32} (hi : i < 15) : am_ix (hp lp M) (some (49 + 2 * i)) 0 x = am_in x 96 := by
  rcases (show i = 0 ∨ i = 1 ∨ i = 2 ∨ i = 3 ∨ i = 4 ∨ i = 5 ∨ i = 6 ∨ i = 7 ∨ i = 8 ∨ i = 9 ∨ i = 10 ∨ i = 11 ∨ i = 12 ∨ i = 13 ∨ i = 14 by omega) with rfl | rfl | rfl | rfl | rfl | rfl | rfl | rfl | rfl | rfl | rfl | rfl | rfl | rfl | rfl <;> rfl
theorem zs90 {lp i : Nat} {M : Mem} (hi : i < 4) : am_gr (hp lp M) (some 90) i = some (91 + 2 * i) := by
  rcases (show i = 0 ∨ i = 1 ∨ i = 2 ∨ i = 3 by omega) with rfl | rfl | rfl | rfl <;> rfl
theorem zso {lp i : Nat} {M : Mem} (hi : i < 4) : am_ob (hp lp M) (some (91 + 2 * i)) 5 = true := by
  rcases (show i = 0 ∨ i = 1 ∨ i = 2 ∨ i = 3 by omega) with rfl | rfl | rfl | rfl <;> rfl
theorem zsp {lp i : Nat} {M : Mem} (hi : i < 4) : am_gr (hp lp M) (some (91 + 2 * i)) 2 = some (92 + 2 * i) := by
  rcases (show i = 0 ∨ i = 1 ∨ i = 2 ∨ i = 3 by omega) with rfl | rfl | rfl | rfl <;> rfl
theorem zsx {lp i : Nat} {M : Mem} {x : Int32} (hi : i < 4) : am_ix (hp lp M) (some (92 + 2 * i)) 0 x = am_in x 24 := by
  rcases (show i = 0 ∨ i = 1 ∨ i = 2 ∨ i = 3 by omega) with rfl | rfl | rfl | rfl <;> rfl
theorem zt99 {lp i : Nat} {M : Mem} (hi : i < 5) : am_gr (hp lp M) (some 99) i = some (100 + 4 * i) := by
  rcases (show i = 0 ∨ i = 1 ∨ i = 2 ∨ i = 3 ∨ i = 4 by omega) with rfl | rfl | rfl | rfl | rfl <;> rfl
theorem zto {lp i : Nat} {M : Mem} (hi : i < 5) : am_ob (hp lp M) (some (100 + 4 * i)) 6 = true := by
  rcases (show i = 0 ∨ i = 1 ∨ i = 2 ∨ i = 3 ∨ i = 4 by omega) with rfl | rfl | rfl | rfl | rfl <;> rfl
theorem ztp1 {lp i : Nat} {M : Mem} (hi : i < 5) : am_gr (hp lp M) (some (100 + 4 * i)) 1 = some (101 + 4 * i) := by
  rcases (show i = 0 ∨ i = 1 ∨ i = 2 ∨ i = 3 ∨ i = 4 by omega) with rfl | rfl | rfl | rfl | rfl <;> rfl
theorem ztp2 {lp i : Nat} {M : Mem} (hi : i < 5) : am_gr (hp lp M) (some (100 + 4 * i)) 2 = some (102 + 4 * i) := by
  rcases (show i = 0 ∨ i = 1 ∨ i = 2 ∨ i = 3 ∨ i = 4 by omega) with rfl | rfl | rfl | rfl | rfl <;> rfl
theorem ztgo {lp i : Nat} {M : Mem} (hi : i < 5) : am_ob (hp lp M) (some (101 + 4 * i)) 1 = true := by
  rcases (show i = 0 ∨ i = 1 ∨ i = 2 ∨ i = 3 ∨ i = 4 by omega) with rfl | rfl | rfl | rfl | rfl <;> rfl
theorem ztso {lp i : Nat} {M : Mem} (hi : i < 5) : am_ob (hp lp M) (some (102 + 4 * i)) 5 = true := by
  rcases (show i = 0 ∨ i = 1 ∨ i = 2 ∨ i = 3 ∨ i = 4 by omega) with rfl | rfl | rfl | rfl | rfl <;> rfl
theorem ztsp {lp i : Nat} {M : Mem} (hi : i < 5) : am_gr (hp lp M) (some (102 + 4 * i)) 2 = some (103 + 4 * i) := by
  rcases (show i = 0 ∨ i = 1 ∨ i = 2 ∨ i = 3 ∨ i = 4 by omega) with rfl | rfl | rfl | rfl | rfl <;> rfl
theorem ztsx {lp i : Nat} {M : Mem} {x : Int32} (hi : i < 5) : am_ix (hp lp M) (some (103 + 4 * i)) 0 x = am_in x 24 := by
  rcases (show i = 0 ∨ i = 1 ∨ i = 2 ∨ i = 3 ∨ i = 4 by omega) with rfl | rfl | rfl | rfl | rfl <;> rfl
theorem zc0 : (0 : Int32).toNatClampNeg = 0 := Eq.trans rfl rfl
theorem zi0 : am_in (0 : Int32) 1448 = true := Eq.trans rfl rfl
theorem zc1 : (1 : Int32).toNatClampNeg = 1 := Eq.trans rfl rfl
theorem zi1 : am_in (1 : Int32) 1448 = true := Eq.trans rfl rfl
theorem zc2 : (2 : Int32).toNatClampNeg = 2 := Eq.trans rfl rfl
theorem zi2 : am_in (2 : Int32) 1448 = true := Eq.trans rfl rfl
theorem zc3 : (3 : Int32).toNatClampNeg = 3 := Eq.trans rfl rfl
theorem zi3 : am_in (3 : Int32) 1448 = true := Eq.trans rfl rfl
theorem zc4 : (4 : Int32).toNatClampNeg = 4 := Eq.trans rfl rfl
theorem zi4 : am_in (4 : Int32) 1448 = true := Eq.trans rfl rfl
theorem zc5 : (5 : Int32).toNatClampNeg = 5 := Eq.trans rfl rfl
theorem zi5 : am_in (5 : Int32) 1448 = true := Eq.trans rfl rfl
theorem zle {i n : Nat} (h : i < n) (hn : n < 2147483648) : (nI n ≤ nI i) = False := eq_false (nI_ge h hn)
theorem zle' {i n : Nat} (h : n ≤ i) (hn : i < 2147483648) : (nI n ≤ nI i) = True := eq_true (nI_le h hn)
theorem zlt {i n : Nat} (h : i < n) (hn : n < 2147483648) : (nI i < nI n) = True := eq_true (nI_lt h hn)
theorem zlt' {i n : Nat} (h : n ≤ i) (hn : i < 2147483648) : (nI i < nI n) = False := eq_false (nI_nlt h hn)
theorem zne {i n : Nat} (h : i ≠ n) (hi : i < 2147483648) (hn : n < 2147483648) : (nI i = nI n) = False := eq_false (fun q => h ((nI_eq hi hn).mp q))
theorem zin {i n : Nat} (hi : i < n) (hn : n ≤ 1000000) : am_in (nI i) n = true := in_nI hi hn
theorem zcl {n : Nat} (h : n < 2147483648) : (nI n).toNatClampNeg = n := nI_clamp h
