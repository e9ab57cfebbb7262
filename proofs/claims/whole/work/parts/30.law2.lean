def fxL_law_b1402 (xs : List Int32) (k18 : Option Nat → Option Nat → Int32 → am_H → Option (Int32 × am_H)) (l1 : Option Nat) (l2 : Option Nat) (l3 : Int32) (h : am_H) : Option (Int32 × am_H) := am_lt (l3 + 6) (fun x261 => k18 l1 l2 x261 h)
set_option maxRecDepth 100000 in
theorem sxL_law_b1402 {xs : List Int32} (k18 : Option Nat → Option Nat → Int32 → am_H → Option (Int32 × am_H)) (hk18 : ∀ (l1 : Option Nat) (l2 : Option Nat) (l3 : Int32) (h : am_H), am_Sm xs am_ci mL_law 603 0 0 18 [some (am_K 8), some (am_R l1), some (am_R l2), some (am_I l3)] [] h (k18 l1 l2 l3 h)) (l1 : Option Nat) (l2 : Option Nat) (l3 : Int32) (h : am_H) : am_Sm xs am_ci mL_law 603 0 0 1402 [some (am_K 8), some (am_R l1), some (am_R l2), some (am_I l3)] [] h (fxL_law_b1402 xs k18 l1 l2 l3 h) := by
  unfold fxL_law_b1402
  refine am_iinc (v := 6) (LL := fun y9 => [some (am_K 8), some (am_R l1), some (am_R l2), some (am_I y9)]) dL_law_1402 (by decide) rfl (by decide) (fun _ => rfl) (fun x261 => ?_)
  refine am_goto (tgt := 18) dL_law_1405 (by decide) ?_
  exact am_weak (hk18 l1 l2 x261 h) ⟨rfl, ⟨rfl, ⟨rfl, ⟨rfl, trivial⟩⟩⟩⟩ (by first | omega | (unfold am_G; omega)) (by first | omega | (unfold am_G; omega))
def fxL_law_b18 (xs : List Int32) : Nat → Option Nat → Option Nat → Int32 → am_H → Option (Int32 × am_H)
  | 0, _, _, _, _ => none
  | n + 1, l1, l2, l3, h => if ((Int32.ofNat (am_kc xs 8).length) - (6 : Int32)) < l3 then (am_gd (am_bz (1 : Int32)) (some ((1 : Int32), h))) else (am_gd (am_in l3 (am_kc xs 8).length) (if (((am_kc xs 8).getD l3.toNatClampNeg 0) &&& (63 : Int32)) = 0 then (am_gd (am_in (l3 + (1 : Int32)) (am_kc xs 8).length) (am_gd (am_in (l3 + (2 : Int32)) (am_kc xs 8).length) (am_gd (am_in (l3 + (3 : Int32)) (am_kc xs 8).length) (am_gd (am_in (l3 + (4 : Int32)) (am_kc xs 8).length) (am_gd (am_ob h l1 9) (am_bd (fxX9_glove l1 ((am_kc xs 8).getD (l3 + (1 : Int32)).toNatClampNeg 0) ((am_kc xs 8).getD (l3 + (2 : Int32)).toNatClampNeg 0) ((am_kc xs 8).getD (l3 + (3 : Int32)).toNatClampNeg 0) ((am_kc xs 8).getD (l3 + (4 : Int32)).toNatClampNeg 0) h) (fun r8 h9 => am_gd (am_in (l3 + (1 : Int32)) (am_kc xs 8).length) (am_gd (am_in (l3 + (2 : Int32)) (am_kc xs 8).length) (am_gd (am_in (l3 + (3 : Int32)) (am_kc xs 8).length) (am_gd (am_in (l3 + (4 : Int32)) (am_kc xs 8).length) (am_gd (am_ob h9 l2 10) (am_bd (fxX10_glove l2 ((am_kc xs 8).getD (l3 + (1 : Int32)).toNatClampNeg 0) ((am_kc xs 8).getD (l3 + (2 : Int32)).toNatClampNeg 0) ((am_kc xs 8).getD (l3 + (3 : Int32)).toNatClampNeg 0) ((am_kc xs 8).getD (l3 + (4 : Int32)).toNatClampNeg 0) h9) (fun r10 h11 => if r8 = r10 then (fxL_law_b1402 xs (fxL_law_b18 xs n) l1 l2 l3 h11) else (am_gd (am_bz (0 : Int32)) (some ((0 : Int32), h11)))))))))))))))) else (if (((am_kc xs 8).getD l3.toNatClampNeg 0) &&& (63 : Int32)) = 1 then (am_gd (am_in (l3 + (1 : Int32)) (am_kc xs 8).length) (am_gd (am_in (l3 + (2 : Int32)) (am_kc xs 8).length) (am_gd (am_ob h l1 9) (am_bd (fxX9_told l1 ((am_kc xs 8).getD (l3 + (1 : Int32)).toNatClampNeg 0) ((am_kc xs 8).getD (l3 + (2 : Int32)).toNatClampNeg 0) h) (fun r14 h15 => am_gd (am_in (l3 + (1 : Int32)) (am_kc xs 8).length) (am_gd (am_in (l3 + (2 : Int32)) (am_kc xs 8).length) (am_gd (am_ob h15 l2 10) (am_bd (fxX10_told l2 ((am_kc xs 8).getD (l3 + (1 : Int32)).toNatClampNeg 0) ((am_kc xs 8).getD (l3 + (2 : Int32)).toNatClampNeg 0) h15) (fun r16 h17 => if r14 = r16 then (fxL_law_b1402 xs (fxL_law_b18 xs n) l1 l2 l3 h17) else (am_gd (am_bz (0 : Int32)) (some ((0 : Int32), h17)))))))))))) else (if (((am_kc xs 8).getD l3.toNatClampNeg 0) &&& (63 : Int32)) = 2 then (am_gd (am_in (l3 + (1 : Int32)) (am_kc xs 8).length) (am_gd (am_in (l3 + (2 : Int32)) (am_kc xs 8).length) (am_gd (am_ob h l1 9) (am_bd (fxX9_as l1 ((am_kc xs 8).getD (l3 + (1 : Int32)).toNatClampNeg 0) ((am_kc xs 8).getD (l3 + (2 : Int32)).toNatClampNeg 0) h) (fun r20 h21 => am_gd (am_in (l3 + (1 : Int32)) (am_kc xs 8).length) (am_gd (am_in (l3 + (2 : Int32)) (am_kc xs 8).length) (am_gd (am_ob h21 l2 10) (am_bd (fxX10_as l2 ((am_kc xs 8).getD (l3 + (1 : Int32)).toNatClampNeg 0) ((am_kc xs 8).getD (l3 + (2 : Int32)).toNatClampNeg 0) h21) (fun r22 h23 => if r20 = r22 then (fxL_law_b1402 xs (fxL_law_b18 xs n) l1 l2 l3 h23) else (am_gd (am_bz (0 : Int32)) (some ((0 : Int32), h23)))))))))))) else (if (((am_kc xs 8).getD l3.toNatClampNeg 0) &&& (63 : Int32)) = 3 then (am_gd (am_in (l3 + (1 : Int32)) (am_kc xs 8).length) (am_gd (am_in (l3 + (2 : Int32)) (am_kc xs 8).length) (am_gd (am_ob h l1 9) (am_bd (fxX9_turns l1 ((am_kc xs 8).getD (l3 + (1 : Int32)).toNatClampNeg 0) ((am_kc xs 8).getD (l3 + (2 : Int32)).toNatClampNeg 0) h) (fun r26 h27 => am_gd (am_in (l3 + (1 : Int32)) (am_kc xs 8).length) (am_gd (am_in (l3 + (2 : Int32)) (am_kc xs 8).length) (am_gd (am_ob h27 l2 10) (am_bd (fxX10_turns l2 ((am_kc xs 8).getD (l3 + (1 : Int32)).toNatClampNeg 0) ((am_kc xs 8).getD (l3 + (2 : Int32)).toNatClampNeg 0) h27) (fun r28 h29 => if r26 = r28 then (fxL_law_b1402 xs (fxL_law_b18 xs n) l1 l2 l3 h29) else (am_gd (am_bz (0 : Int32)) (some ((0 : Int32), h29)))))))))))) else (if (((am_kc xs 8).getD l3.toNatClampNeg 0) &&& (63 : Int32)) = 4 then (am_gd (am_in (l3 + (1 : Int32)) (am_kc xs 8).length) (am_gd (am_in (l3 + (2 : Int32)) (am_kc xs 8).length) (am_gd (am_in (l3 + (3 : Int32)) (am_kc xs 8).length) (am_gd (am_ob h l1 9) (am_bd (fxX9_set l1 ((am_kc xs 8).getD (l3 + (1 : Int32)).toNatClampNeg 0) ((am_kc xs 8).getD (l3 + (2 : Int32)).toNatClampNeg 0) ((am_kc xs 8).getD (l3 + (3 : Int32)).toNatClampNeg 0) h) (fun r32 h33 => am_gd (am_in (l3 + (1 : Int32)) (am_kc xs 8).length) (am_gd (am_in (l3 + (2 : Int32)) (am_kc xs 8).length) (am_gd (am_in (l3 + (3 : Int32)) (am_kc xs 8).length) (am_gd (am_ob h33 l2 10) (am_bd (fxX10_set l2 ((am_kc xs 8).getD (l3 + (1 : Int32)).toNatClampNeg 0) ((am_kc xs 8).getD (l3 + (2 : Int32)).toNatClampNeg 0) ((am_kc xs 8).getD (l3 + (3 : Int32)).toNatClampNeg 0) h33) (fun r34 h35 => if r32 = r34 then (fxL_law_b1402 xs (fxL_law_b18 xs n) l1 l2 l3 h35) else (am_gd (am_bz (0 : Int32)) (some ((0 : Int32), h35)))))))))))))) else (if (((am_kc xs 8).getD l3.toNatClampNeg 0) &&& (63 : Int32)) = 5 then (am_gd (am_in (l3 + (1 : Int32)) (am_kc xs 8).length) (am_gd (am_in (l3 + (2 : Int32)) (am_kc xs 8).length) (am_gd (am_ob h l1 9) (am_bd (fxX9_fits l1 ((am_kc xs 8).getD (l3 + (1 : Int32)).toNatClampNeg 0) ((am_kc xs 8).getD (l3 + (2 : Int32)).toNatClampNeg 0) h) (fun r38 h39 => am_gd (am_in (l3 + (1 : Int32)) (am_kc xs 8).length) (am_gd (am_in (l3 + (2 : Int32)) (am_kc xs 8).length) (am_gd (am_ob h39 l2 10) (am_bd (fxX10_fits l2 ((am_kc xs 8).getD (l3 + (1 : Int32)).toNatClampNeg 0) ((am_kc xs 8).getD (l3 + (2 : Int32)).toNatClampNeg 0) h39) (fun r40 h41 => if r38 = r40 then (fxL_law_b1402 xs (fxL_law_b18 xs n) l1 l2 l3 h41) else (am_gd (am_bz (0 : Int32)) (some ((0 : Int32), h41)))))))))))) else (if (((am_kc xs 8).getD l3.toNatClampNeg 0) &&& (63 : Int32)) = 6 then (am_gd (am_in (l3 + (1 : Int32)) (am_kc xs 8).length) (am_gd (am_in (l3 + (2 : Int32)) (am_kc xs 8).length) (am_gd (am_ob h l1 9) (am_bd (fxX9_value l1 ((am_kc xs 8).getD (l3 + (1 : Int32)).toNatClampNeg 0) ((am_kc xs 8).getD (l3 + (2 : Int32)).toNatClampNeg 0) h) (fun r44 h45 => am_gd (am_in (l3 + (1 : Int32)) (am_kc xs 8).length) (am_gd (am_in (l3 + (2 : Int32)) (am_kc xs 8).length) (am_gd (am_ob h45 l2 10) (am_bd (fxX10_value l2 ((am_kc xs 8).getD (l3 + (1 : Int32)).toNatClampNeg 0) ((am_kc xs 8).getD (l3 + (2 : Int32)).toNatClampNeg 0) h45) (fun r46 h47 => if r44 = r46 then (fxL_law_b1402 xs (fxL_law_b18 xs n) l1 l2 l3 h47) else (am_gd (am_bz (0 : Int32)) (some ((0 : Int32), h47)))))))))))) else (if (((am_kc xs 8).getD l3.toNatClampNeg 0) &&& (63 : Int32)) = 7 then (am_gd (am_in (l3 + (1 : Int32)) (am_kc xs 8).length) (am_gd (am_ob h l1 9) (am_bd (fxX9_deal l1 ((am_kc xs 8).getD (l3 + (1 : Int32)).toNatClampNeg 0) h) (fun r50 h51 => am_gd (am_in (l3 + (1 : Int32)) (am_kc xs 8).length) (am_gd (am_ob h51 l2 10) (am_bd (fxX10_deal l2 ((am_kc xs 8).getD (l3 + (1 : Int32)).toNatClampNeg 0) h51) (fun r52 h53 => if r50 = r52 then (fxL_law_b1402 xs (fxL_law_b18 xs n) l1 l2 l3 h53) else (am_gd (am_bz (0 : Int32)) (some ((0 : Int32), h53)))))))))) else (if (((am_kc xs 8).getD l3.toNatClampNeg 0) &&& (63 : Int32)) = 8 then (am_gd (am_in (l3 + (1 : Int32)) (am_kc xs 8).length) (am_gd (am_ob h l1 9) (am_bd (fxX9_seed l1 ((am_kc xs 8).getD (l3 + (1 : Int32)).toNatClampNeg 0) h) (fun r56 h57 => am_gd (am_in (l3 + (1 : Int32)) (am_kc xs 8).length) (am_gd (am_ob h57 l2 10) (am_bd (fxX10_seed l2 ((am_kc xs 8).getD (l3 + (1 : Int32)).toNatClampNeg 0) h57) (fun r58 h59 => if r56 = r58 then (fxL_law_b1402 xs (fxL_law_b18 xs n) l1 l2 l3 h59) else (am_gd (am_bz (0 : Int32)) (some ((0 : Int32), h59)))))))))) else (if (((am_kc xs 8).getD l3.toNatClampNeg 0) &&& (63 : Int32)) = 9 then (am_gd (am_in (l3 + (1 : Int32)) (am_kc xs 8).length) (am_gd (am_ob h l1 9) (am_bd (fxX9_best l1 ((am_kc xs 8).getD (l3 + (1 : Int32)).toNatClampNeg 0) h) (fun r62 h63 => am_gd (am_in (l3 + (1 : Int32)) (am_kc xs 8).length) (am_gd (am_ob h63 l2 10) (am_bd (fxX10_best l2 ((am_kc xs 8).getD (l3 + (1 : Int32)).toNatClampNeg 0) h63) (fun r64 h65 => if r62 = r64 then (fxL_law_b1402 xs (fxL_law_b18 xs n) l1 l2 l3 h65) else (am_gd (am_bz (0 : Int32)) (some ((0 : Int32), h65)))))))))) else (if (((am_kc xs 8).getD l3.toNatClampNeg 0) &&& (63 : Int32)) = 10 then (am_gd (am_in (l3 + (1 : Int32)) (am_kc xs 8).length) (am_gd (am_ob h l1 9) (am_bd (fxX9_partner l1 ((am_kc xs 8).getD (l3 + (1 : Int32)).toNatClampNeg 0) h) (fun r68 h69 => am_gd (am_in (l3 + (1 : Int32)) (am_kc xs 8).length) (am_gd (am_ob h69 l2 10) (am_bd (fxX10_partner l2 ((am_kc xs 8).getD (l3 + (1 : Int32)).toNatClampNeg 0) h69) (fun r70 h71 => if r68 = r70 then (fxL_law_b1402 xs (fxL_law_b18 xs n) l1 l2 l3 h71) else (am_gd (am_bz (0 : Int32)) (some ((0 : Int32), h71)))))))))) else (if (((am_kc xs 8).getD l3.toNatClampNeg 0) &&& (63 : Int32)) = 11 then (am_gd (am_in (l3 + (1 : Int32)) (am_kc xs 8).length) (am_gd (am_ob h l1 9) (am_bd (fxX9_adds l1 ((am_kc xs 8).getD (l3 + (1 : Int32)).toNatClampNeg 0) h) (fun r74 h75 => am_gd (am_in (l3 + (1 : Int32)) (am_kc xs 8).length) (am_gd (am_ob h75 l2 10) (am_bd (fxX10_adds l2 ((am_kc xs 8).getD (l3 + (1 : Int32)).toNatClampNeg 0) h75) (fun r76 h77 => if r74 = r76 then (fxL_law_b1402 xs (fxL_law_b18 xs n) l1 l2 l3 h77) else (am_gd (am_bz (0 : Int32)) (some ((0 : Int32), h77)))))))))) else (if (((am_kc xs 8).getD l3.toNatClampNeg 0) &&& (63 : Int32)) = 12 then (am_gd (am_in (l3 + (1 : Int32)) (am_kc xs 8).length) (am_gd (am_ob h l1 9) (am_bd (fxX9_leaves l1 ((am_kc xs 8).getD (l3 + (1 : Int32)).toNatClampNeg 0) h) (fun r80 h81 => am_gd (am_in (l3 + (1 : Int32)) (am_kc xs 8).length) (am_gd (am_ob h81 l2 10) (am_bd (fxX10_leaves l2 ((am_kc xs 8).getD (l3 + (1 : Int32)).toNatClampNeg 0) h81) (fun r82 h83 => if r80 = r82 then (fxL_law_b1402 xs (fxL_law_b18 xs n) l1 l2 l3 h83) else (am_gd (am_bz (0 : Int32)) (some ((0 : Int32), h83)))))))))) else (if (((am_kc xs 8).getD l3.toNatClampNeg 0) &&& (63 : Int32)) = 13 then (am_gd (am_in (l3 + (1 : Int32)) (am_kc xs 8).length) (am_gd (am_ob h l1 9) (am_bd (fxX9_loss l1 ((am_kc xs 8).getD (l3 + (1 : Int32)).toNatClampNeg 0) h) (fun r86 h87 => am_gd (am_in (l3 + (1 : Int32)) (am_kc xs 8).length) (am_gd (am_ob h87 l2 10) (am_bd (fxX10_loss l2 ((am_kc xs 8).getD (l3 + (1 : Int32)).toNatClampNeg 0) h87) (fun r88 h89 => if r86 = r88 then (fxL_law_b1402 xs (fxL_law_b18 xs n) l1 l2 l3 h89) else (am_gd (am_bz (0 : Int32)) (some ((0 : Int32), h89)))))))))) else (if (((am_kc xs 8).getD l3.toNatClampNeg 0) &&& (63 : Int32)) = 14 then (am_gd (am_in (l3 + (1 : Int32)) (am_kc xs 8).length) (am_gd (am_ob h l1 9) (am_bd (fxX9_days l1 ((am_kc xs 8).getD (l3 + (1 : Int32)).toNatClampNeg 0) h) (fun r92 h93 => am_gd (am_in (l3 + (1 : Int32)) (am_kc xs 8).length) (am_gd (am_ob h93 l2 10) (am_bd (fxX10_days l2 ((am_kc xs 8).getD (l3 + (1 : Int32)).toNatClampNeg 0) h93) (fun r94 h95 => if r92 = r94 then (fxL_law_b1402 xs (fxL_law_b18 xs n) l1 l2 l3 h95) else (am_gd (am_bz (0 : Int32)) (some ((0 : Int32), h95)))))))))) else (if (((am_kc xs 8).getD l3.toNatClampNeg 0) &&& (63 : Int32)) = 15 then (am_gd (am_in (l3 + (1 : Int32)) (am_kc xs 8).length) (am_gd (am_in (l3 + (2 : Int32)) (am_kc xs 8).length) (am_gd (am_ob h l1 9) (am_bd (fxX9_behind l1 ((am_kc xs 8).getD (l3 + (1 : Int32)).toNatClampNeg 0) ((am_kc xs 8).getD (l3 + (2 : Int32)).toNatClampNeg 0) h) (fun r98 h99 => am_gd (am_in (l3 + (1 : Int32)) (am_kc xs 8).length) (am_gd (am_in (l3 + (2 : Int32)) (am_kc xs 8).length) (am_gd (am_ob h99 l2 10) (am_bd (fxX10_behind l2 ((am_kc xs 8).getD (l3 + (1 : Int32)).toNatClampNeg 0) ((am_kc xs 8).getD (l3 + (2 : Int32)).toNatClampNeg 0) h99) (fun r100 h101 => if r98 = r100 then (fxL_law_b1402 xs (fxL_law_b18 xs n) l1 l2 l3 h101) else (am_gd (am_bz (0 : Int32)) (some ((0 : Int32), h101)))))))))))) else (if (((am_kc xs 8).getD l3.toNatClampNeg 0) &&& (63 : Int32)) = 16 then (am_gd (am_in (l3 + (1 : Int32)) (am_kc xs 8).length) (am_gd (am_ob h l1 9) (am_bd (fxX9_keepHome l1 ((am_kc xs 8).getD (l3 + (1 : Int32)).toNatClampNeg 0) h) (fun r104 h105 => am_gd (am_in (l3 + (1 : Int32)) (am_kc xs 8).length) (am_gd (am_ob h105 l2 10) (am_bd (fxX10_keepHome l2 ((am_kc xs 8).getD (l3 + (1 : Int32)).toNatClampNeg 0) h105) (fun r106 h107 => if r104 = r106 then (fxL_law_b1402 xs (fxL_law_b18 xs n) l1 l2 l3 h107) else (am_gd (am_bz (0 : Int32)) (some ((0 : Int32), h107)))))))))) else (if (((am_kc xs 8).getD l3.toNatClampNeg 0) &&& (63 : Int32)) = 17 then (am_gd (am_ob h l1 9) (am_bd (fxX9_fine l1 h) (fun r110 h111 => am_gd (am_ob h111 l2 10) (am_bd (fxX10_fine l2 h111) (fun r112 h113 => if r110 = r112 then (fxL_law_b1402 xs (fxL_law_b18 xs n) l1 l2 l3 h113) else (am_gd (am_bz (0 : Int32)) (some ((0 : Int32), h113)))))))) else (if (((am_kc xs 8).getD l3.toNatClampNeg 0) &&& (63 : Int32)) = 18 then (am_gd (am_in (l3 + (1 : Int32)) (am_kc xs 8).length) (am_gd (am_in (l3 + (2 : Int32)) (am_kc xs 8).length) (am_gd (am_ob h l1 9) (am_bd (fxX9_worn l1 ((am_kc xs 8).getD (l3 + (1 : Int32)).toNatClampNeg 0) ((am_kc xs 8).getD (l3 + (2 : Int32)).toNatClampNeg 0) h) (fun r116 h117 => am_gd (am_in (l3 + (1 : Int32)) (am_kc xs 8).length) (am_gd (am_in (l3 + (2 : Int32)) (am_kc xs 8).length) (am_gd (am_ob h117 l2 10) (am_bd (fxX10_worn l2 ((am_kc xs 8).getD (l3 + (1 : Int32)).toNatClampNeg 0) ((am_kc xs 8).getD (l3 + (2 : Int32)).toNatClampNeg 0) h117) (fun r118 h119 => if r116 = r118 then (fxL_law_b1402 xs (fxL_law_b18 xs n) l1 l2 l3 h119) else (am_gd (am_bz (0 : Int32)) (some ((0 : Int32), h119)))))))))))) else (if (((am_kc xs 8).getD l3.toNatClampNeg 0) &&& (63 : Int32)) = 19 then (am_gd (am_ob h l1 9) (am_bd (fxX9_forget l1 h) (fun r122 h123 => am_gd (am_ob h123 l2 10) (am_bd (fxX10_forget l2 h123) (fun r124 h125 => if r122 = r124 then (fxL_law_b1402 xs (fxL_law_b18 xs n) l1 l2 l3 h125) else (am_gd (am_bz (0 : Int32)) (some ((0 : Int32), h125)))))))) else (if (((am_kc xs 8).getD l3.toNatClampNeg 0) &&& (63 : Int32)) = 20 then (am_gd (am_ob h l1 9) (am_bd (fxX9_joins l1 h) (fun r128 h129 => am_gd (am_ob h129 l2 10) (am_bd (fxX10_joins l2 h129) (fun r130 h131 => if r128 = r130 then (fxL_law_b1402 xs (fxL_law_b18 xs n) l1 l2 l3 h131) else (am_gd (am_bz (0 : Int32)) (some ((0 : Int32), h131)))))))) else (if (((am_kc xs 8).getD l3.toNatClampNeg 0) &&& (63 : Int32)) = 21 then (am_gd (am_in (l3 + (1 : Int32)) (am_kc xs 8).length) (am_gd (am_ob h l1 9) (am_bd (fxX9_sure l1 ((am_kc xs 8).getD (l3 + (1 : Int32)).toNatClampNeg 0) h) (fun r134 h135 => am_gd (am_in (l3 + (1 : Int32)) (am_kc xs 8).length) (am_gd (am_ob h135 l2 10) (am_bd (fxX10_sure l2 ((am_kc xs 8).getD (l3 + (1 : Int32)).toNatClampNeg 0) h135) (fun r136 h137 => if r134 = r136 then (fxL_law_b1402 xs (fxL_law_b18 xs n) l1 l2 l3 h137) else (am_gd (am_bz (0 : Int32)) (some ((0 : Int32), h137)))))))))) else (if (((am_kc xs 8).getD l3.toNatClampNeg 0) &&& (63 : Int32)) = 22 then (am_gd (am_in (l3 + (1 : Int32)) (am_kc xs 8).length) (am_gd (am_ob h l1 9) (am_bd (fxX9_better l1 ((am_kc xs 8).getD (l3 + (1 : Int32)).toNatClampNeg 0) h) (fun r140 h141 => am_gd (am_in (l3 + (1 : Int32)) (am_kc xs 8).length) (am_gd (am_ob h141 l2 10) (am_bd (fxX10_better l2 ((am_kc xs 8).getD (l3 + (1 : Int32)).toNatClampNeg 0) h141) (fun r142 h143 => if r140 = r142 then (fxL_law_b1402 xs (fxL_law_b18 xs n) l1 l2 l3 h143) else (am_gd (am_bz (0 : Int32)) (some ((0 : Int32), h143)))))))))) else (if (((am_kc xs 8).getD l3.toNatClampNeg 0) &&& (63 : Int32)) = 23 then (am_gd (am_in (l3 + (1 : Int32)) (am_kc xs 8).length) (am_gd (am_in (l3 + (2 : Int32)) (am_kc xs 8).length) (am_gd (am_in (l3 + (3 : Int32)) (am_kc xs 8).length) (am_gd (am_ob h l1 9) (am_bd (fxX9_feed l1 ((am_kc xs 8).getD (l3 + (1 : Int32)).toNatClampNeg 0) ((am_kc xs 8).getD (l3 + (2 : Int32)).toNatClampNeg 0) ((am_kc xs 8).getD (l3 + (3 : Int32)).toNatClampNeg 0) h) (fun r146 h147 => am_gd (am_in (l3 + (1 : Int32)) (am_kc xs 8).length) (am_gd (am_in (l3 + (2 : Int32)) (am_kc xs 8).length) (am_gd (am_in (l3 + (3 : Int32)) (am_kc xs 8).length) (am_gd (am_ob h147 l2 10) (am_bd (fxX10_feed l2 ((am_kc xs 8).getD (l3 + (1 : Int32)).toNatClampNeg 0) ((am_kc xs 8).getD (l3 + (2 : Int32)).toNatClampNeg 0) ((am_kc xs 8).getD (l3 + (3 : Int32)).toNatClampNeg 0) h147) (fun r148 h149 => if r146 = r148 then (fxL_law_b1402 xs (fxL_law_b18 xs n) l1 l2 l3 h149) else (am_gd (am_bz (0 : Int32)) (some ((0 : Int32), h149)))))))))))))) else (if (((am_kc xs 8).getD l3.toNatClampNeg 0) &&& (63 : Int32)) = 24 then (am_gd (am_in (l3 + (1 : Int32)) (am_kc xs 8).length) (am_gd (am_ob h l1 9) (am_bd (fxX9_trim l1 ((am_kc xs 8).getD (l3 + (1 : Int32)).toNatClampNeg 0) h) (fun r152 h153 => am_gd (am_in (l3 + (1 : Int32)) (am_kc xs 8).length) (am_gd (am_ob h153 l2 10) (am_bd (fxX10_trim l2 ((am_kc xs 8).getD (l3 + (1 : Int32)).toNatClampNeg 0) h153) (fun r154 h155 => if r152 = r154 then (fxL_law_b1402 xs (fxL_law_b18 xs n) l1 l2 l3 h155) else (am_gd (am_bz (0 : Int32)) (some ((0 : Int32), h155)))))))))) else (if (((am_kc xs 8).getD l3.toNatClampNeg 0) &&& (63 : Int32)) = 25 then (am_gd (am_ob h l1 9) (am_bd (fxX9_text l1 h) (fun r158 h159 => am_gd (am_ob h159 l2 10) (am_bd (fxX10_text l2 h159) (fun r160 h161 => if r158 = r160 then (fxL_law_b1402 xs (fxL_law_b18 xs n) l1 l2 l3 h161) else (am_gd (am_bz (0 : Int32)) (some ((0 : Int32), h161)))))))) else (if (((am_kc xs 8).getD l3.toNatClampNeg 0) &&& (63 : Int32)) = 26 then (am_gd (am_in (l3 + (1 : Int32)) (am_kc xs 8).length) (am_gd (am_in (l3 + (2 : Int32)) (am_kc xs 8).length) (am_gd (am_ob h l1 9) (am_bd (fxX9_textTold l1 ((am_kc xs 8).getD (l3 + (1 : Int32)).toNatClampNeg 0) ((am_kc xs 8).getD (l3 + (2 : Int32)).toNatClampNeg 0) h) (fun r164 h165 => am_gd (am_in (l3 + (1 : Int32)) (am_kc xs 8).length) (am_gd (am_in (l3 + (2 : Int32)) (am_kc xs 8).length) (am_gd (am_ob h165 l2 10) (am_bd (fxX10_textTold l2 ((am_kc xs 8).getD (l3 + (1 : Int32)).toNatClampNeg 0) ((am_kc xs 8).getD (l3 + (2 : Int32)).toNatClampNeg 0) h165) (fun r166 h167 => if r164 = r166 then (fxL_law_b1402 xs (fxL_law_b18 xs n) l1 l2 l3 h167) else (am_gd (am_bz (0 : Int32)) (some ((0 : Int32), h167)))))))))))) else (if (((am_kc xs 8).getD l3.toNatClampNeg 0) &&& (63 : Int32)) = 27 then (am_gd (am_in (l3 + (1 : Int32)) (am_kc xs 8).length) (am_gd (am_ob h l1 9) (am_bd (fxX9_why l1 ((am_kc xs 8).getD (l3 + (1 : Int32)).toNatClampNeg 0) h) (fun r170 h171 => am_gd (am_in (l3 + (1 : Int32)) (am_kc xs 8).length) (am_gd (am_ob h171 l2 10) (am_bd (fxX10_why l2 ((am_kc xs 8).getD (l3 + (1 : Int32)).toNatClampNeg 0) h171) (fun r172 h173 => if r170 = r172 then (fxL_law_b1402 xs (fxL_law_b18 xs n) l1 l2 l3 h173) else (am_gd (am_bz (0 : Int32)) (some ((0 : Int32), h173)))))))))) else (if (((am_kc xs 8).getD l3.toNatClampNeg 0) &&& (63 : Int32)) = 28 then (am_gd (am_in (l3 + (1 : Int32)) (am_kc xs 8).length) (am_gd (am_in (l3 + (2 : Int32)) (am_kc xs 8).length) (am_gd (am_in (l3 + (3 : Int32)) (am_kc xs 8).length) (am_gd (am_ob h l1 9) (am_bd (fxX9_sheet l1 ((am_kc xs 8).getD (l3 + (1 : Int32)).toNatClampNeg 0) ((am_kc xs 8).getD (l3 + (2 : Int32)).toNatClampNeg 0) ((am_kc xs 8).getD (l3 + (3 : Int32)).toNatClampNeg 0) h) (fun r176 h177 => am_gd (am_in (l3 + (1 : Int32)) (am_kc xs 8).length) (am_gd (am_in (l3 + (2 : Int32)) (am_kc xs 8).length) (am_gd (am_in (l3 + (3 : Int32)) (am_kc xs 8).length) (am_gd (am_ob h177 l2 10) (am_bd (fxX10_sheet l2 ((am_kc xs 8).getD (l3 + (1 : Int32)).toNatClampNeg 0) ((am_kc xs 8).getD (l3 + (2 : Int32)).toNatClampNeg 0) ((am_kc xs 8).getD (l3 + (3 : Int32)).toNatClampNeg 0) h177) (fun r178 h179 => if r176 = r178 then (fxL_law_b1402 xs (fxL_law_b18 xs n) l1 l2 l3 h179) else (am_gd (am_bz (0 : Int32)) (some ((0 : Int32), h179)))))))))))))) else (if (((am_kc xs 8).getD l3.toNatClampNeg 0) &&& (63 : Int32)) = 29 then (am_gd (am_in (l3 + (1 : Int32)) (am_kc xs 8).length) (am_gd (am_in (l3 + (2 : Int32)) (am_kc xs 8).length) (am_gd (am_in (l3 + (3 : Int32)) (am_kc xs 8).length) (am_gd (am_ob h l1 9) (am_bd (fxX9_mark l1 ((am_kc xs 8).getD (l3 + (1 : Int32)).toNatClampNeg 0) ((am_kc xs 8).getD (l3 + (2 : Int32)).toNatClampNeg 0) ((am_kc xs 8).getD (l3 + (3 : Int32)).toNatClampNeg 0) h) (fun r182 h183 => am_gd (am_in (l3 + (1 : Int32)) (am_kc xs 8).length) (am_gd (am_in (l3 + (2 : Int32)) (am_kc xs 8).length) (am_gd (am_in (l3 + (3 : Int32)) (am_kc xs 8).length) (am_gd (am_ob h183 l2 10) (am_bd (fxX10_mark l2 ((am_kc xs 8).getD (l3 + (1 : Int32)).toNatClampNeg 0) ((am_kc xs 8).getD (l3 + (2 : Int32)).toNatClampNeg 0) ((am_kc xs 8).getD (l3 + (3 : Int32)).toNatClampNeg 0) h183) (fun r184 h185 => if r182 = r184 then (fxL_law_b1402 xs (fxL_law_b18 xs n) l1 l2 l3 h185) else (am_gd (am_bz (0 : Int32)) (some ((0 : Int32), h185)))))))))))))) else (if (((am_kc xs 8).getD l3.toNatClampNeg 0) &&& (63 : Int32)) = 30 then (am_gd (am_in (l3 + (1 : Int32)) (am_kc xs 8).length) (am_gd (am_ob h l1 9) (am_bd (fxX9_pour l1 ((am_kc xs 8).getD (l3 + (1 : Int32)).toNatClampNeg 0) h) (fun r188 h189 => am_gd (am_in (l3 + (1 : Int32)) (am_kc xs 8).length) (am_gd (am_ob h189 l2 10) (am_bd (fxX10_pour l2 ((am_kc xs 8).getD (l3 + (1 : Int32)).toNatClampNeg 0) h189) (fun r190 h191 => if r188 = r190 then (fxL_law_b1402 xs (fxL_law_b18 xs n) l1 l2 l3 h191) else (am_gd (am_bz (0 : Int32)) (some ((0 : Int32), h191)))))))))) else (if (((am_kc xs 8).getD l3.toNatClampNeg 0) &&& (63 : Int32)) = 31 then (am_gd (am_in (l3 + (1 : Int32)) (am_kc xs 8).length) (am_gd (am_ob h l1 9) (am_bd (fxX9_reads l1 ((am_kc xs 8).getD (l3 + (1 : Int32)).toNatClampNeg 0) h) (fun r194 h195 => am_gd (am_in (l3 + (1 : Int32)) (am_kc xs 8).length) (am_gd (am_ob h195 l2 10) (am_bd (fxX10_reads l2 ((am_kc xs 8).getD (l3 + (1 : Int32)).toNatClampNeg 0) h195) (fun r196 h197 => if r194 = r196 then (fxL_law_b1402 xs (fxL_law_b18 xs n) l1 l2 l3 h197) else (am_gd (am_bz (0 : Int32)) (some ((0 : Int32), h197)))))))))) else (if (((am_kc xs 8).getD l3.toNatClampNeg 0) &&& (63 : Int32)) = 32 then (am_gd (am_in (l3 + (1 : Int32)) (am_kc xs 8).length) (am_gd (am_in (l3 + (2 : Int32)) (am_kc xs 8).length) (am_gd (am_in (l3 + (3 : Int32)) (am_kc xs 8).length) (am_gd (am_in (l3 + (4 : Int32)) (am_kc xs 8).length) (am_gd (am_in (l3 + (5 : Int32)) (am_kc xs 8).length) (am_gd (am_ob h l1 9) (am_bd (fxX9_copy l1 ((am_kc xs 8).getD (l3 + (1 : Int32)).toNatClampNeg 0) ((am_kc xs 8).getD (l3 + (2 : Int32)).toNatClampNeg 0) ((am_kc xs 8).getD (l3 + (3 : Int32)).toNatClampNeg 0) ((am_kc xs 8).getD (l3 + (4 : Int32)).toNatClampNeg 0) ((am_kc xs 8).getD (l3 + (5 : Int32)).toNatClampNeg 0) h) (fun r200 h201 => am_gd (am_in (l3 + (1 : Int32)) (am_kc xs 8).length) (am_gd (am_in (l3 + (2 : Int32)) (am_kc xs 8).length) (am_gd (am_in (l3 + (3 : Int32)) (am_kc xs 8).length) (am_gd (am_in (l3 + (4 : Int32)) (am_kc xs 8).length) (am_gd (am_in (l3 + (5 : Int32)) (am_kc xs 8).length) (am_gd (am_ob h201 l2 10) (am_bd (fxX10_copy l2 ((am_kc xs 8).getD (l3 + (1 : Int32)).toNatClampNeg 0) ((am_kc xs 8).getD (l3 + (2 : Int32)).toNatClampNeg 0) ((am_kc xs 8).getD (l3 + (3 : Int32)).toNatClampNeg 0) ((am_kc xs 8).getD (l3 + (4 : Int32)).toNatClampNeg 0) ((am_kc xs 8).getD (l3 + (5 : Int32)).toNatClampNeg 0) h201) (fun r202 h203 => if r200 = r202 then (fxL_law_b1402 xs (fxL_law_b18 xs n) l1 l2 l3 h203) else (am_gd (am_bz (0 : Int32)) (some ((0 : Int32), h203)))))))))))))))))) else (if (((am_kc xs 8).getD l3.toNatClampNeg 0) &&& (63 : Int32)) = 33 then (am_gd (am_in (l3 + (1 : Int32)) (am_kc xs 8).length) (am_gd (am_in (l3 + (2 : Int32)) (am_kc xs 8).length) (am_gd (am_in (l3 + (3 : Int32)) (am_kc xs 8).length) (am_gd (am_ob h l1 9) (am_bd (fxX9_lay l1 ((am_kc xs 8).getD (l3 + (1 : Int32)).toNatClampNeg 0) ((am_kc xs 8).getD (l3 + (2 : Int32)).toNatClampNeg 0) ((am_kc xs 8).getD (l3 + (3 : Int32)).toNatClampNeg 0) h) (fun r206 h207 => am_gd (am_in (l3 + (1 : Int32)) (am_kc xs 8).length) (am_gd (am_in (l3 + (2 : Int32)) (am_kc xs 8).length) (am_gd (am_in (l3 + (3 : Int32)) (am_kc xs 8).length) (am_gd (am_ob h207 l2 10) (am_bd (fxX10_lay l2 ((am_kc xs 8).getD (l3 + (1 : Int32)).toNatClampNeg 0) ((am_kc xs 8).getD (l3 + (2 : Int32)).toNatClampNeg 0) ((am_kc xs 8).getD (l3 + (3 : Int32)).toNatClampNeg 0) h207) (fun r208 h209 => if r206 = r208 then (fxL_law_b1402 xs (fxL_law_b18 xs n) l1 l2 l3 h209) else (am_gd (am_bz (0 : Int32)) (some ((0 : Int32), h209)))))))))))))) else (if (((am_kc xs 8).getD l3.toNatClampNeg 0) &&& (63 : Int32)) = 34 then (am_gd (am_in (l3 + (1 : Int32)) (am_kc xs 8).length) (am_gd (am_in (l3 + (2 : Int32)) (am_kc xs 8).length) (am_gd (am_ob h l1 9) (am_bd (fxX9_ask l1 ((am_kc xs 8).getD (l3 + (1 : Int32)).toNatClampNeg 0) ((am_kc xs 8).getD (l3 + (2 : Int32)).toNatClampNeg 0) h) (fun r212 h213 => am_gd (am_in (l3 + (1 : Int32)) (am_kc xs 8).length) (am_gd (am_in (l3 + (2 : Int32)) (am_kc xs 8).length) (am_gd (am_ob h213 l2 10) (am_bd (fxX10_ask l2 ((am_kc xs 8).getD (l3 + (1 : Int32)).toNatClampNeg 0) ((am_kc xs 8).getD (l3 + (2 : Int32)).toNatClampNeg 0) h213) (fun r214 h215 => if r212 = r214 then (fxL_law_b1402 xs (fxL_law_b18 xs n) l1 l2 l3 h215) else (am_gd (am_bz (0 : Int32)) (some ((0 : Int32), h215)))))))))))) else (if (((am_kc xs 8).getD l3.toNatClampNeg 0) &&& (63 : Int32)) = 35 then (am_gd (am_in (l3 + (1 : Int32)) (am_kc xs 8).length) (am_gd (am_in (l3 + (2 : Int32)) (am_kc xs 8).length) (am_gd (am_ob h l1 9) (am_bd (fxX9_item l1 ((am_kc xs 8).getD (l3 + (1 : Int32)).toNatClampNeg 0) ((am_kc xs 8).getD (l3 + (2 : Int32)).toNatClampNeg 0) h) (fun r218 h219 => am_gd (am_in (l3 + (1 : Int32)) (am_kc xs 8).length) (am_gd (am_in (l3 + (2 : Int32)) (am_kc xs 8).length) (am_gd (am_ob h219 l2 10) (am_bd (fxX10_item l2 ((am_kc xs 8).getD (l3 + (1 : Int32)).toNatClampNeg 0) ((am_kc xs 8).getD (l3 + (2 : Int32)).toNatClampNeg 0) h219) (fun r220 h221 => if r218 = r220 then (fxL_law_b1402 xs (fxL_law_b18 xs n) l1 l2 l3 h221) else (am_gd (am_bz (0 : Int32)) (some ((0 : Int32), h221)))))))))))) else (if (((am_kc xs 8).getD l3.toNatClampNeg 0) &&& (63 : Int32)) = 36 then (am_gd (am_in (l3 + (1 : Int32)) (am_kc xs 8).length) (am_gd (am_in (l3 + (2 : Int32)) (am_kc xs 8).length) (am_gd (am_ob h l1 9) (am_bd (fxX9_rest l1 ((am_kc xs 8).getD (l3 + (1 : Int32)).toNatClampNeg 0) ((am_kc xs 8).getD (l3 + (2 : Int32)).toNatClampNeg 0) h) (fun r224 h225 => am_gd (am_in (l3 + (1 : Int32)) (am_kc xs 8).length) (am_gd (am_in (l3 + (2 : Int32)) (am_kc xs 8).length) (am_gd (am_ob h225 l2 10) (am_bd (fxX10_rest l2 ((am_kc xs 8).getD (l3 + (1 : Int32)).toNatClampNeg 0) ((am_kc xs 8).getD (l3 + (2 : Int32)).toNatClampNeg 0) h225) (fun r226 h227 => if r224 = r226 then (fxL_law_b1402 xs (fxL_law_b18 xs n) l1 l2 l3 h227) else (am_gd (am_bz (0 : Int32)) (some ((0 : Int32), h227)))))))))))) else (if (((am_kc xs 8).getD l3.toNatClampNeg 0) &&& (63 : Int32)) = 37 then (am_gd (am_in (l3 + (1 : Int32)) (am_kc xs 8).length) (am_gd (am_ob h l1 9) (am_bd (fxX9_tell l1 ((am_kc xs 8).getD (l3 + (1 : Int32)).toNatClampNeg 0) h) (fun r230 h231 => am_gd (am_in (l3 + (1 : Int32)) (am_kc xs 8).length) (am_gd (am_ob h231 l2 10) (am_bd (fxX10_tell l2 ((am_kc xs 8).getD (l3 + (1 : Int32)).toNatClampNeg 0) h231) (fun r232 h233 => if r230 = r232 then (fxL_law_b1402 xs (fxL_law_b18 xs n) l1 l2 l3 h233) else (am_gd (am_bz (0 : Int32)) (some ((0 : Int32), h233)))))))))) else (if (((am_kc xs 8).getD l3.toNatClampNeg 0) &&& (63 : Int32)) = 38 then (am_gd (am_in (l3 + (1 : Int32)) (am_kc xs 8).length) (am_gd (am_ob h l1 9) (am_bd (fxX9_check l1 ((am_kc xs 8).getD (l3 + (1 : Int32)).toNatClampNeg 0) h) (fun r236 h237 => am_gd (am_in (l3 + (1 : Int32)) (am_kc xs 8).length) (am_gd (am_ob h237 l2 10) (am_bd (fxX10_check l2 ((am_kc xs 8).getD (l3 + (1 : Int32)).toNatClampNeg 0) h237) (fun r238 h239 => if r236 = r238 then (fxL_law_b1402 xs (fxL_law_b18 xs n) l1 l2 l3 h239) else (am_gd (am_bz (0 : Int32)) (some ((0 : Int32), h239)))))))))) else (if (((am_kc xs 8).getD l3.toNatClampNeg 0) &&& (63 : Int32)) = 39 then (am_gd (am_ob h l1 9) (am_bd (fxX9_keep l1 h) (fun r242 h243 => am_gd (am_ob h243 l2 10) (am_bd (fxX10_keep l2 h243) (fun r244 h245 => if r242 = r244 then (fxL_law_b1402 xs (fxL_law_b18 xs n) l1 l2 l3 h245) else (am_gd (am_bz (0 : Int32)) (some ((0 : Int32), h245)))))))) else (if (((am_kc xs 8).getD l3.toNatClampNeg 0) &&& (63 : Int32)) = 40 then (am_gd (am_ob h l1 9) (am_bd (fxX9_back l1 h) (fun r248 h249 => am_gd (am_ob h249 l2 10) (am_bd (fxX10_back l2 h249) (fun r250 h251 => if r248 = r250 then (fxL_law_b1402 xs (fxL_law_b18 xs n) l1 l2 l3 h251) else (am_gd (am_bz (0 : Int32)) (some ((0 : Int32), h251)))))))) else (if (((am_kc xs 8).getD l3.toNatClampNeg 0) &&& (63 : Int32)) = 41 then (am_gd (am_in (l3 + (1 : Int32)) (am_kc xs 8).length) (am_gd (am_ob h l1 9) (am_bd (fxX9_count l1 ((am_kc xs 8).getD (l3 + (1 : Int32)).toNatClampNeg 0) h) (fun r254 h255 => am_gd (am_in (l3 + (1 : Int32)) (am_kc xs 8).length) (am_gd (am_ob h255 l2 10) (am_bd (fxX10_count l2 ((am_kc xs 8).getD (l3 + (1 : Int32)).toNatClampNeg 0) h255) (fun r256 h257 => if r254 = r256 then (fxL_law_b1402 xs (fxL_law_b18 xs n) l1 l2 l3 h257) else (am_gd (am_bz (0 : Int32)) (some ((0 : Int32), h257)))))))))) else (fxL_law_b1402 xs (fxL_law_b18 xs n) l1 l2 l3 h))))))))))))))))))))))))))))))))))))))))))))
set_option maxRecDepth 100000 in
theorem sxL_law_b18 {xs : List Int32} : ∀ (n : Nat) (l1 : Option Nat) (l2 : Option Nat) (l3 : Int32) (h : am_H), am_Sm xs am_ci mL_law 603 0 0 18 [some (am_K 8), some (am_R l1), some (am_R l2), some (am_I l3)] [] h (fxL_law_b18 xs n l1 l2 l3 h) := by
  intro n
  induction n with
  | zero => intros; exact am_none
  | succ n ih =>
    intro l1 l2 l3 h
    rw [fxL_law_b18]
    refine am_iload_n dL_law_18 rfl ?_
    refine am_aload_n dL_law_19 rfl ?_
    refine am_klen dL_law_20 (Or.inl (Or.inr (Or.inr rfl))) ?_
    refine am_bipush (v := 6) dL_law_21 (by decide) ?_
    refine am_isub dL_law_23 ?_
    refine am_icmp_gt (tgt := 1408) dL_law_24 (by decide) (fun c260 => ?_) (fun c260 => ?_)
    · refine am_rcw (rc' := 0) (rs' := 0) ?_ (by omega) (by omega)
      refine am_iconst (v := 1) dL_law_1408 (by decide) ?_
      exact am_zret dL_law_1409 rfl rfl
    refine am_rcw (rc' := 0) (rs' := 0) ?_ (by omega) (by omega)
    refine am_aload_n dL_law_27 rfl ?_
    refine am_iload_n dL_law_28 rfl ?_
    refine am_kald dL_law_29 (Or.inr (Or.inr rfl)) ?_
    refine am_bipush (v := 63) dL_law_30 (by decide) ?_
    refine am_iand dL_law_32 ?_
    refine am_table (cs := [(0, 216), (1, 269), (2, 302), (3, 335), (4, 368), (5, 411), (6, 444), (7, 477), (8, 500), (9, 523), (10, 546), (11, 569), (12, 592), (13, 615), (14, 638), (15, 661), (16, 694), (17, 717), (18, 730), (19, 763), (20, 776), (21, 789), (22, 812), (23, 835), (24, 878), (25, 901), (26, 914), (27, 947), (28, 970), (29, 1013), (30, 1056), (31, 1079), (32, 1102), (33, 1165), (34, 1208), (35, 1241), (36, 1274), (37, 1307), (38, 1330), (39, 1353), (40, 1366), (41, 1379)]) (dt := 1402) dL_law_33 (by decide +kernel) ?_
    refine am_sw_cons (fun c13 => ?_) (fun c13 => ?_)
    · refine am_rcw (rc' := 0) (rs' := 0) ?_ (by omega) (by omega)
      refine am_aload_n dL_law_216 rfl ?_
      refine am_aload_n dL_law_217 rfl ?_
      refine am_iload_n dL_law_218 rfl ?_
      refine am_iconst (v := 1) dL_law_219 (by decide) ?_
      refine am_iadd dL_law_220 ?_
      refine am_kald dL_law_221 (Or.inr (Or.inr rfl)) ?_
      refine am_aload_n dL_law_222 rfl ?_
      refine am_iload_n dL_law_223 rfl ?_
      refine am_iconst (v := 2) dL_law_224 (by decide) ?_
      refine am_iadd dL_law_225 ?_
      refine am_kald dL_law_226 (Or.inr (Or.inr rfl)) ?_
      refine am_aload_n dL_law_227 rfl ?_
      refine am_iload_n dL_law_228 rfl ?_
      refine am_iconst (v := 3) dL_law_229 (by decide) ?_
      refine am_iadd dL_law_230 ?_
      refine am_kald dL_law_231 (Or.inr (Or.inr rfl)) ?_
      refine am_aload_n dL_law_232 rfl ?_
      refine am_iload_n dL_law_233 rfl ?_
      refine am_iconst (v := 4) dL_law_234 (by decide) ?_
      refine am_iadd dL_law_235 ?_
      refine am_kald dL_law_236 (Or.inr (Or.inr rfl)) ?_
      refine am_callV (cvj := am_ci) (mtj := mX9_glove) (dj := 2) (nj := 4) (rcj := 0) (rsj := 0) (rc' := 0) (rs' := 0) (ci := 9) (st' := fun a9 => (am_I a9 :: [])) ⟨_, rfl, rfl⟩ [am_I ((am_kc xs 8).getD (l3 + (1 : Int32)).toNatClampNeg 0), am_I ((am_kc xs 8).getD (l3 + (2 : Int32)).toNatClampNeg 0), am_I ((am_kc xs 8).getD (l3 + (3 : Int32)).toNatClampNeg 0), am_I ((am_kc xs 8).getD (l3 + (4 : Int32)).toNatClampNeg 0)] [] dL_law_237 okX9_glove lk_R_law_13 (fun zA zH zE => txX9_glove l1 ((am_kc xs 8).getD (l3 + (1 : Int32)).toNatClampNeg 0) ((am_kc xs 8).getD (l3 + (2 : Int32)).toNatClampNeg 0) ((am_kc xs 8).getD (l3 + (3 : Int32)).toNatClampNeg 0) ((am_kc xs 8).getD (l3 + (4 : Int32)).toNatClampNeg 0) h zA zH zE) rfl (fun _ => rfl) (by decide) rfl (Nat.le_of_ble_eq_true rfl) (by omega) (by omega) (fun r8 h9 => ?_)
      refine am_aload_n dL_law_240 rfl ?_
      refine am_aload_n dL_law_241 rfl ?_
      refine am_iload_n dL_law_242 rfl ?_
      refine am_iconst (v := 1) dL_law_243 (by decide) ?_
      refine am_iadd dL_law_244 ?_
      refine am_kald dL_law_245 (Or.inr (Or.inr rfl)) ?_
      refine am_aload_n dL_law_246 rfl ?_
      refine am_iload_n dL_law_247 rfl ?_
      refine am_iconst (v := 2) dL_law_248 (by decide) ?_
      refine am_iadd dL_law_249 ?_
      refine am_kald dL_law_250 (Or.inr (Or.inr rfl)) ?_
      refine am_aload_n dL_law_251 rfl ?_
      refine am_iload_n dL_law_252 rfl ?_
      refine am_iconst (v := 3) dL_law_253 (by decide) ?_
      refine am_iadd dL_law_254 ?_
      refine am_kald dL_law_255 (Or.inr (Or.inr rfl)) ?_
      refine am_aload_n dL_law_256 rfl ?_
      refine am_iload_n dL_law_257 rfl ?_
      refine am_iconst (v := 4) dL_law_258 (by decide) ?_
      refine am_iadd dL_law_259 ?_
      refine am_kald dL_law_260 (Or.inr (Or.inr rfl)) ?_
      refine am_callV (cvj := am_ci) (mtj := mX10_glove) (dj := 2) (nj := 4) (rcj := 0) (rsj := 0) (rc' := 0) (rs' := 0) (ci := 10) (st' := fun a9 => (am_I a9 :: [am_I r8])) ⟨_, rfl, rfl⟩ [am_I ((am_kc xs 8).getD (l3 + (1 : Int32)).toNatClampNeg 0), am_I ((am_kc xs 8).getD (l3 + (2 : Int32)).toNatClampNeg 0), am_I ((am_kc xs 8).getD (l3 + (3 : Int32)).toNatClampNeg 0), am_I ((am_kc xs 8).getD (l3 + (4 : Int32)).toNatClampNeg 0)] [am_I r8] dL_law_261 okX10_glove lk_R_law_17 (fun zA zH zE => txX10_glove l2 ((am_kc xs 8).getD (l3 + (1 : Int32)).toNatClampNeg 0) ((am_kc xs 8).getD (l3 + (2 : Int32)).toNatClampNeg 0) ((am_kc xs 8).getD (l3 + (3 : Int32)).toNatClampNeg 0) ((am_kc xs 8).getD (l3 + (4 : Int32)).toNatClampNeg 0) h9 zA zH zE) rfl (fun _ => rfl) (by decide) rfl (Nat.le_of_ble_eq_true rfl) (by omega) (by omega) (fun r10 h11 => ?_)
      refine am_icmp_eq (tgt := 1402) dL_law_264 (by decide) (fun c12 => ?_) (fun c12 => ?_)
      · exact am_weak (sxL_law_b1402 (fxL_law_b18 xs n) ih l1 l2 l3 h11) ⟨rfl, ⟨rfl, ⟨rfl, ⟨rfl, trivial⟩⟩⟩⟩ (by first | omega | (unfold am_G; omega)) (by first | omega | (unfold am_G; omega))
      refine am_rcw (rc' := 0) (rs' := 0) ?_ (by omega) (by omega)
      refine am_iconst (v := 0) dL_law_267 (by decide) ?_
      exact am_zret dL_law_268 rfl rfl
    refine am_sw_cons (fun c19 => ?_) (fun c19 => ?_)
    · refine am_rcw (rc' := 0) (rs' := 0) ?_ (by omega) (by omega)
      refine am_aload_n dL_law_269 rfl ?_
      refine am_aload_n dL_law_270 rfl ?_
      refine am_iload_n dL_law_271 rfl ?_
      refine am_iconst (v := 1) dL_law_272 (by decide) ?_
      refine am_iadd dL_law_273 ?_
      refine am_kald dL_law_274 (Or.inr (Or.inr rfl)) ?_
      refine am_aload_n dL_law_275 rfl ?_
      refine am_iload_n dL_law_276 rfl ?_
      refine am_iconst (v := 2) dL_law_277 (by decide) ?_
      refine am_iadd dL_law_278 ?_
      refine am_kald dL_law_279 (Or.inr (Or.inr rfl)) ?_
      refine am_callV (cvj := am_ci) (mtj := mX9_told) (dj := 2) (nj := 2) (rcj := 0) (rsj := 0) (rc' := 0) (rs' := 0) (ci := 9) (st' := fun a9 => (am_I a9 :: [])) ⟨_, rfl, rfl⟩ [am_I ((am_kc xs 8).getD (l3 + (1 : Int32)).toNatClampNeg 0), am_I ((am_kc xs 8).getD (l3 + (2 : Int32)).toNatClampNeg 0)] [] dL_law_280 okX9_told lk_R_law_18 (fun zA zH zE => txX9_told l1 ((am_kc xs 8).getD (l3 + (1 : Int32)).toNatClampNeg 0) ((am_kc xs 8).getD (l3 + (2 : Int32)).toNatClampNeg 0) h zA zH zE) rfl (fun _ => rfl) (by decide) rfl (Nat.le_of_ble_eq_true rfl) (by omega) (by omega) (fun r14 h15 => ?_)
      refine am_aload_n dL_law_283 rfl ?_
      refine am_aload_n dL_law_284 rfl ?_
      refine am_iload_n dL_law_285 rfl ?_
      refine am_iconst (v := 1) dL_law_286 (by decide) ?_
      refine am_iadd dL_law_287 ?_
      refine am_kald dL_law_288 (Or.inr (Or.inr rfl)) ?_
      refine am_aload_n dL_law_289 rfl ?_
      refine am_iload_n dL_law_290 rfl ?_
      refine am_iconst (v := 2) dL_law_291 (by decide) ?_
      refine am_iadd dL_law_292 ?_
      refine am_kald dL_law_293 (Or.inr (Or.inr rfl)) ?_
      refine am_callV (cvj := am_ci) (mtj := mX10_told) (dj := 2) (nj := 2) (rcj := 0) (rsj := 0) (rc' := 0) (rs' := 0) (ci := 10) (st' := fun a9 => (am_I a9 :: [am_I r14])) ⟨_, rfl, rfl⟩ [am_I ((am_kc xs 8).getD (l3 + (1 : Int32)).toNatClampNeg 0), am_I ((am_kc xs 8).getD (l3 + (2 : Int32)).toNatClampNeg 0)] [am_I r14] dL_law_294 okX10_told lk_R_law_22 (fun zA zH zE => txX10_told l2 ((am_kc xs 8).getD (l3 + (1 : Int32)).toNatClampNeg 0) ((am_kc xs 8).getD (l3 + (2 : Int32)).toNatClampNeg 0) h15 zA zH zE) rfl (fun _ => rfl) (by decide) rfl (Nat.le_of_ble_eq_true rfl) (by omega) (by omega) (fun r16 h17 => ?_)
      refine am_icmp_eq (tgt := 1402) dL_law_297 (by decide) (fun c18 => ?_) (fun c18 => ?_)
      · exact am_weak (sxL_law_b1402 (fxL_law_b18 xs n) ih l1 l2 l3 h17) ⟨rfl, ⟨rfl, ⟨rfl, ⟨rfl, trivial⟩⟩⟩⟩ (by first | omega | (unfold am_G; omega)) (by first | omega | (unfold am_G; omega))
      refine am_rcw (rc' := 0) (rs' := 0) ?_ (by omega) (by omega)
      refine am_iconst (v := 0) dL_law_300 (by decide) ?_
      exact am_zret dL_law_301 rfl rfl
    refine am_sw_cons (fun c25 => ?_) (fun c25 => ?_)
    · refine am_rcw (rc' := 0) (rs' := 0) ?_ (by omega) (by omega)
      refine am_aload_n dL_law_302 rfl ?_
      refine am_aload_n dL_law_303 rfl ?_
      refine am_iload_n dL_law_304 rfl ?_
      refine am_iconst (v := 1) dL_law_305 (by decide) ?_
      refine am_iadd dL_law_306 ?_
      refine am_kald dL_law_307 (Or.inr (Or.inr rfl)) ?_
      refine am_aload_n dL_law_308 rfl ?_
      refine am_iload_n dL_law_309 rfl ?_
      refine am_iconst (v := 2) dL_law_310 (by decide) ?_
      refine am_iadd dL_law_311 ?_
      refine am_kald dL_law_312 (Or.inr (Or.inr rfl)) ?_
      refine am_callV (cvj := am_ci) (mtj := mX9_as) (dj := 3) (nj := 2) (rcj := 0) (rsj := 0) (rc' := 0) (rs' := 0) (ci := 9) (st' := fun a9 => (am_I a9 :: [])) ⟨_, rfl, rfl⟩ [am_I ((am_kc xs 8).getD (l3 + (1 : Int32)).toNatClampNeg 0), am_I ((am_kc xs 8).getD (l3 + (2 : Int32)).toNatClampNeg 0)] [] dL_law_313 okX9_as lk_R_law_23 (fun zA zH zE => txX9_as l1 ((am_kc xs 8).getD (l3 + (1 : Int32)).toNatClampNeg 0) ((am_kc xs 8).getD (l3 + (2 : Int32)).toNatClampNeg 0) h zA zH zE) rfl (fun _ => rfl) (by decide) rfl (Nat.le_of_ble_eq_true rfl) (by omega) (by omega) (fun r20 h21 => ?_)
      refine am_aload_n dL_law_316 rfl ?_
      refine am_aload_n dL_law_317 rfl ?_
      refine am_iload_n dL_law_318 rfl ?_
      refine am_iconst (v := 1) dL_law_319 (by decide) ?_
      refine am_iadd dL_law_320 ?_
      refine am_kald dL_law_321 (Or.inr (Or.inr rfl)) ?_
      refine am_aload_n dL_law_322 rfl ?_
      refine am_iload_n dL_law_323 rfl ?_
      refine am_iconst (v := 2) dL_law_324 (by decide) ?_
      refine am_iadd dL_law_325 ?_
      refine am_kald dL_law_326 (Or.inr (Or.inr rfl)) ?_
      refine am_callV (cvj := am_ci) (mtj := mX10_as) (dj := 2) (nj := 2) (rcj := 0) (rsj := 0) (rc' := 0) (rs' := 0) (ci := 10) (st' := fun a9 => (am_I a9 :: [am_I r20])) ⟨_, rfl, rfl⟩ [am_I ((am_kc xs 8).getD (l3 + (1 : Int32)).toNatClampNeg 0), am_I ((am_kc xs 8).getD (l3 + (2 : Int32)).toNatClampNeg 0)] [am_I r20] dL_law_327 okX10_as lk_R_law_26 (fun zA zH zE => txX10_as l2 ((am_kc xs 8).getD (l3 + (1 : Int32)).toNatClampNeg 0) ((am_kc xs 8).getD (l3 + (2 : Int32)).toNatClampNeg 0) h21 zA zH zE) rfl (fun _ => rfl) (by decide) rfl (Nat.le_of_ble_eq_true rfl) (by omega) (by omega) (fun r22 h23 => ?_)
      refine am_icmp_eq (tgt := 1402) dL_law_330 (by decide) (fun c24 => ?_) (fun c24 => ?_)
      · exact am_weak (sxL_law_b1402 (fxL_law_b18 xs n) ih l1 l2 l3 h23) ⟨rfl, ⟨rfl, ⟨rfl, ⟨rfl, trivial⟩⟩⟩⟩ (by first | omega | (unfold am_G; omega)) (by first | omega | (unfold am_G; omega))
      refine am_rcw (rc' := 0) (rs' := 0) ?_ (by omega) (by omega)
      refine am_iconst (v := 0) dL_law_333 (by decide) ?_
      exact am_zret dL_law_334 rfl rfl
    refine am_sw_cons (fun c31 => ?_) (fun c31 => ?_)
    · refine am_rcw (rc' := 0) (rs' := 0) ?_ (by omega) (by omega)
      refine am_aload_n dL_law_335 rfl ?_
      refine am_aload_n dL_law_336 rfl ?_
      refine am_iload_n dL_law_337 rfl ?_
      refine am_iconst (v := 1) dL_law_338 (by decide) ?_
      refine am_iadd dL_law_339 ?_
      refine am_kald dL_law_340 (Or.inr (Or.inr rfl)) ?_
      refine am_aload_n dL_law_341 rfl ?_
      refine am_iload_n dL_law_342 rfl ?_
      refine am_iconst (v := 2) dL_law_343 (by decide) ?_
      refine am_iadd dL_law_344 ?_
      refine am_kald dL_law_345 (Or.inr (Or.inr rfl)) ?_
      refine am_callV (cvj := am_ci) (mtj := mX9_turns) (dj := 2) (nj := 2) (rcj := 0) (rsj := 0) (rc' := 0) (rs' := 0) (ci := 9) (st' := fun a9 => (am_I a9 :: [])) ⟨_, rfl, rfl⟩ [am_I ((am_kc xs 8).getD (l3 + (1 : Int32)).toNatClampNeg 0), am_I ((am_kc xs 8).getD (l3 + (2 : Int32)).toNatClampNeg 0)] [] dL_law_346 okX9_turns lk_R_law_27 (fun zA zH zE => txX9_turns l1 ((am_kc xs 8).getD (l3 + (1 : Int32)).toNatClampNeg 0) ((am_kc xs 8).getD (l3 + (2 : Int32)).toNatClampNeg 0) h zA zH zE) rfl (fun _ => rfl) (by decide) rfl (Nat.le_of_ble_eq_true rfl) (by omega) (by omega) (fun r26 h27 => ?_)
      refine am_aload_n dL_law_349 rfl ?_
      refine am_aload_n dL_law_350 rfl ?_
      refine am_iload_n dL_law_351 rfl ?_
      refine am_iconst (v := 1) dL_law_352 (by decide) ?_
      refine am_iadd dL_law_353 ?_
      refine am_kald dL_law_354 (Or.inr (Or.inr rfl)) ?_
      refine am_aload_n dL_law_355 rfl ?_
      refine am_iload_n dL_law_356 rfl ?_
      refine am_iconst (v := 2) dL_law_357 (by decide) ?_
      refine am_iadd dL_law_358 ?_
      refine am_kald dL_law_359 (Or.inr (Or.inr rfl)) ?_
      refine am_callV (cvj := am_ci) (mtj := mX10_turns) (dj := 2) (nj := 2) (rcj := 0) (rsj := 0) (rc' := 0) (rs' := 0) (ci := 10) (st' := fun a9 => (am_I a9 :: [am_I r26])) ⟨_, rfl, rfl⟩ [am_I ((am_kc xs 8).getD (l3 + (1 : Int32)).toNatClampNeg 0), am_I ((am_kc xs 8).getD (l3 + (2 : Int32)).toNatClampNeg 0)] [am_I r26] dL_law_360 okX10_turns lk_R_law_30 (fun zA zH zE => txX10_turns l2 ((am_kc xs 8).getD (l3 + (1 : Int32)).toNatClampNeg 0) ((am_kc xs 8).getD (l3 + (2 : Int32)).toNatClampNeg 0) h27 zA zH zE) rfl (fun _ => rfl) (by decide) rfl (Nat.le_of_ble_eq_true rfl) (by omega) (by omega) (fun r28 h29 => ?_)
      refine am_icmp_eq (tgt := 1402) dL_law_363 (by decide) (fun c30 => ?_) (fun c30 => ?_)
      · exact am_weak (sxL_law_b1402 (fxL_law_b18 xs n) ih l1 l2 l3 h29) ⟨rfl, ⟨rfl, ⟨rfl, ⟨rfl, trivial⟩⟩⟩⟩ (by first | omega | (unfold am_G; omega)) (by first | omega | (unfold am_G; omega))
      refine am_rcw (rc' := 0) (rs' := 0) ?_ (by omega) (by omega)
      refine am_iconst (v := 0) dL_law_366 (by decide) ?_
      exact am_zret dL_law_367 rfl rfl
    refine am_sw_cons (fun c37 => ?_) (fun c37 => ?_)
    · refine am_rcw (rc' := 0) (rs' := 0) ?_ (by omega) (by omega)
      refine am_aload_n dL_law_368 rfl ?_
      refine am_aload_n dL_law_369 rfl ?_
      refine am_iload_n dL_law_370 rfl ?_
      refine am_iconst (v := 1) dL_law_371 (by decide) ?_
      refine am_iadd dL_law_372 ?_
      refine am_kald dL_law_373 (Or.inr (Or.inr rfl)) ?_
      refine am_aload_n dL_law_374 rfl ?_
      refine am_iload_n dL_law_375 rfl ?_
      refine am_iconst (v := 2) dL_law_376 (by decide) ?_
      refine am_iadd dL_law_377 ?_
      refine am_kald dL_law_378 (Or.inr (Or.inr rfl)) ?_
      refine am_aload_n dL_law_379 rfl ?_
      refine am_iload_n dL_law_380 rfl ?_
      refine am_iconst (v := 3) dL_law_381 (by decide) ?_
      refine am_iadd dL_law_382 ?_
      refine am_kald dL_law_383 (Or.inr (Or.inr rfl)) ?_
      refine am_callV (cvj := am_ci) (mtj := mX9_set) (dj := 2) (nj := 3) (rcj := 0) (rsj := 0) (rc' := 0) (rs' := 0) (ci := 9) (st' := fun a9 => (am_I a9 :: [])) ⟨_, rfl, rfl⟩ [am_I ((am_kc xs 8).getD (l3 + (1 : Int32)).toNatClampNeg 0), am_I ((am_kc xs 8).getD (l3 + (2 : Int32)).toNatClampNeg 0), am_I ((am_kc xs 8).getD (l3 + (3 : Int32)).toNatClampNeg 0)] [] dL_law_384 okX9_set lk_R_law_31 (fun zA zH zE => txX9_set l1 ((am_kc xs 8).getD (l3 + (1 : Int32)).toNatClampNeg 0) ((am_kc xs 8).getD (l3 + (2 : Int32)).toNatClampNeg 0) ((am_kc xs 8).getD (l3 + (3 : Int32)).toNatClampNeg 0) h zA zH zE) rfl (fun _ => rfl) (by decide) rfl (Nat.le_of_ble_eq_true rfl) (by omega) (by omega) (fun r32 h33 => ?_)
      refine am_aload_n dL_law_387 rfl ?_
      refine am_aload_n dL_law_388 rfl ?_
      refine am_iload_n dL_law_389 rfl ?_
      refine am_iconst (v := 1) dL_law_390 (by decide) ?_
      refine am_iadd dL_law_391 ?_
      refine am_kald dL_law_392 (Or.inr (Or.inr rfl)) ?_
      refine am_aload_n dL_law_393 rfl ?_
      refine am_iload_n dL_law_394 rfl ?_
      refine am_iconst (v := 2) dL_law_395 (by decide) ?_
      refine am_iadd dL_law_396 ?_
      refine am_kald dL_law_397 (Or.inr (Or.inr rfl)) ?_
      refine am_aload_n dL_law_398 rfl ?_
      refine am_iload_n dL_law_399 rfl ?_
      refine am_iconst (v := 3) dL_law_400 (by decide) ?_
      refine am_iadd dL_law_401 ?_
      refine am_kald dL_law_402 (Or.inr (Or.inr rfl)) ?_
      refine am_callV (cvj := am_ci) (mtj := mX10_set) (dj := 2) (nj := 3) (rcj := 0) (rsj := 0) (rc' := 0) (rs' := 0) (ci := 10) (st' := fun a9 => (am_I a9 :: [am_I r32])) ⟨_, rfl, rfl⟩ [am_I ((am_kc xs 8).getD (l3 + (1 : Int32)).toNatClampNeg 0), am_I ((am_kc xs 8).getD (l3 + (2 : Int32)).toNatClampNeg 0), am_I ((am_kc xs 8).getD (l3 + (3 : Int32)).toNatClampNeg 0)] [am_I r32] dL_law_403 okX10_set lk_R_law_35 (fun zA zH zE => txX10_set l2 ((am_kc xs 8).getD (l3 + (1 : Int32)).toNatClampNeg 0) ((am_kc xs 8).getD (l3 + (2 : Int32)).toNatClampNeg 0) ((am_kc xs 8).getD (l3 + (3 : Int32)).toNatClampNeg 0) h33 zA zH zE) rfl (fun _ => rfl) (by decide) rfl (Nat.le_of_ble_eq_true rfl) (by omega) (by omega) (fun r34 h35 => ?_)
      refine am_icmp_eq (tgt := 1402) dL_law_406 (by decide) (fun c36 => ?_) (fun c36 => ?_)
      · exact am_weak (sxL_law_b1402 (fxL_law_b18 xs n) ih l1 l2 l3 h35) ⟨rfl, ⟨rfl, ⟨rfl, ⟨rfl, trivial⟩⟩⟩⟩ (by first | omega | (unfold am_G; omega)) (by first | omega | (unfold am_G; omega))
      refine am_rcw (rc' := 0) (rs' := 0) ?_ (by omega) (by omega)
      refine am_iconst (v := 0) dL_law_409 (by decide) ?_
      exact am_zret dL_law_410 rfl rfl
    refine am_sw_cons (fun c43 => ?_) (fun c43 => ?_)
    · refine am_rcw (rc' := 0) (rs' := 0) ?_ (by omega) (by omega)
      refine am_aload_n dL_law_411 rfl ?_
      refine am_aload_n dL_law_412 rfl ?_
      refine am_iload_n dL_law_413 rfl ?_
      refine am_iconst (v := 1) dL_law_414 (by decide) ?_
      refine am_iadd dL_law_415 ?_
      refine am_kald dL_law_416 (Or.inr (Or.inr rfl)) ?_
      refine am_aload_n dL_law_417 rfl ?_
      refine am_iload_n dL_law_418 rfl ?_
      refine am_iconst (v := 2) dL_law_419 (by decide) ?_
      refine am_iadd dL_law_420 ?_
      refine am_kald dL_law_421 (Or.inr (Or.inr rfl)) ?_
      refine am_callV (cvj := am_ci) (mtj := mX9_fits) (dj := 3) (nj := 2) (rcj := 0) (rsj := 0) (rc' := 0) (rs' := 0) (ci := 9) (st' := fun a9 => (am_I a9 :: [])) ⟨_, rfl, rfl⟩ [am_I ((am_kc xs 8).getD (l3 + (1 : Int32)).toNatClampNeg 0), am_I ((am_kc xs 8).getD (l3 + (2 : Int32)).toNatClampNeg 0)] [] dL_law_422 okX9_fits lk_R_law_36 (fun zA zH zE => txX9_fits l1 ((am_kc xs 8).getD (l3 + (1 : Int32)).toNatClampNeg 0) ((am_kc xs 8).getD (l3 + (2 : Int32)).toNatClampNeg 0) h zA zH zE) rfl (fun _ => rfl) (by decide) rfl (Nat.le_of_ble_eq_true rfl) (by omega) (by omega) (fun r38 h39 => ?_)
      refine am_aload_n dL_law_425 rfl ?_
      refine am_aload_n dL_law_426 rfl ?_
      refine am_iload_n dL_law_427 rfl ?_
      refine am_iconst (v := 1) dL_law_428 (by decide) ?_
      refine am_iadd dL_law_429 ?_
      refine am_kald dL_law_430 (Or.inr (Or.inr rfl)) ?_
      refine am_aload_n dL_law_431 rfl ?_
      refine am_iload_n dL_law_432 rfl ?_
      refine am_iconst (v := 2) dL_law_433 (by decide) ?_
      refine am_iadd dL_law_434 ?_
      refine am_kald dL_law_435 (Or.inr (Or.inr rfl)) ?_
      refine am_callV (cvj := am_ci) (mtj := mX10_fits) (dj := 2) (nj := 2) (rcj := 0) (rsj := 0) (rc' := 0) (rs' := 0) (ci := 10) (st' := fun a9 => (am_I a9 :: [am_I r38])) ⟨_, rfl, rfl⟩ [am_I ((am_kc xs 8).getD (l3 + (1 : Int32)).toNatClampNeg 0), am_I ((am_kc xs 8).getD (l3 + (2 : Int32)).toNatClampNeg 0)] [am_I r38] dL_law_436 okX10_fits lk_R_law_39 (fun zA zH zE => txX10_fits l2 ((am_kc xs 8).getD (l3 + (1 : Int32)).toNatClampNeg 0) ((am_kc xs 8).getD (l3 + (2 : Int32)).toNatClampNeg 0) h39 zA zH zE) rfl (fun _ => rfl) (by decide) rfl (Nat.le_of_ble_eq_true rfl) (by omega) (by omega) (fun r40 h41 => ?_)
      refine am_icmp_eq (tgt := 1402) dL_law_439 (by decide) (fun c42 => ?_) (fun c42 => ?_)
      · exact am_weak (sxL_law_b1402 (fxL_law_b18 xs n) ih l1 l2 l3 h41) ⟨rfl, ⟨rfl, ⟨rfl, ⟨rfl, trivial⟩⟩⟩⟩ (by first | omega | (unfold am_G; omega)) (by first | omega | (unfold am_G; omega))
      refine am_rcw (rc' := 0) (rs' := 0) ?_ (by omega) (by omega)
      refine am_iconst (v := 0) dL_law_442 (by decide) ?_
      exact am_zret dL_law_443 rfl rfl
    refine am_sw_cons (fun c49 => ?_) (fun c49 => ?_)
    · refine am_rcw (rc' := 0) (rs' := 0) ?_ (by omega) (by omega)
      refine am_aload_n dL_law_444 rfl ?_
      refine am_aload_n dL_law_445 rfl ?_
      refine am_iload_n dL_law_446 rfl ?_
      refine am_iconst (v := 1) dL_law_447 (by decide) ?_
      refine am_iadd dL_law_448 ?_
      refine am_kald dL_law_449 (Or.inr (Or.inr rfl)) ?_
      refine am_aload_n dL_law_450 rfl ?_
      refine am_iload_n dL_law_451 rfl ?_
      refine am_iconst (v := 2) dL_law_452 (by decide) ?_
      refine am_iadd dL_law_453 ?_
      refine am_kald dL_law_454 (Or.inr (Or.inr rfl)) ?_
      refine am_callV (cvj := am_ci) (mtj := mX9_value) (dj := 4) (nj := 2) (rcj := 0) (rsj := 0) (rc' := 0) (rs' := 0) (ci := 9) (st' := fun a9 => (am_I a9 :: [])) ⟨_, rfl, rfl⟩ [am_I ((am_kc xs 8).getD (l3 + (1 : Int32)).toNatClampNeg 0), am_I ((am_kc xs 8).getD (l3 + (2 : Int32)).toNatClampNeg 0)] [] dL_law_455 okX9_value lk_R_law_40 (fun zA zH zE => txX9_value l1 ((am_kc xs 8).getD (l3 + (1 : Int32)).toNatClampNeg 0) ((am_kc xs 8).getD (l3 + (2 : Int32)).toNatClampNeg 0) h zA zH zE) rfl (fun _ => rfl) (by decide) rfl (Nat.le_of_ble_eq_true rfl) (by omega) (by omega) (fun r44 h45 => ?_)
      refine am_aload_n dL_law_458 rfl ?_
      refine am_aload_n dL_law_459 rfl ?_
      refine am_iload_n dL_law_460 rfl ?_
      refine am_iconst (v := 1) dL_law_461 (by decide) ?_
      refine am_iadd dL_law_462 ?_
      refine am_kald dL_law_463 (Or.inr (Or.inr rfl)) ?_
      refine am_aload_n dL_law_464 rfl ?_
      refine am_iload_n dL_law_465 rfl ?_
      refine am_iconst (v := 2) dL_law_466 (by decide) ?_
      refine am_iadd dL_law_467 ?_
      refine am_kald dL_law_468 (Or.inr (Or.inr rfl)) ?_
      refine am_callV (cvj := am_ci) (mtj := mX10_value) (dj := 3) (nj := 2) (rcj := 0) (rsj := 0) (rc' := 0) (rs' := 0) (ci := 10) (st' := fun a9 => (am_I a9 :: [am_I r44])) ⟨_, rfl, rfl⟩ [am_I ((am_kc xs 8).getD (l3 + (1 : Int32)).toNatClampNeg 0), am_I ((am_kc xs 8).getD (l3 + (2 : Int32)).toNatClampNeg 0)] [am_I r44] dL_law_469 okX10_value lk_R_law_43 (fun zA zH zE => txX10_value l2 ((am_kc xs 8).getD (l3 + (1 : Int32)).toNatClampNeg 0) ((am_kc xs 8).getD (l3 + (2 : Int32)).toNatClampNeg 0) h45 zA zH zE) rfl (fun _ => rfl) (by decide) rfl (Nat.le_of_ble_eq_true rfl) (by omega) (by omega) (fun r46 h47 => ?_)
      refine am_icmp_eq (tgt := 1402) dL_law_472 (by decide) (fun c48 => ?_) (fun c48 => ?_)
      · exact am_weak (sxL_law_b1402 (fxL_law_b18 xs n) ih l1 l2 l3 h47) ⟨rfl, ⟨rfl, ⟨rfl, ⟨rfl, trivial⟩⟩⟩⟩ (by first | omega | (unfold am_G; omega)) (by first | omega | (unfold am_G; omega))
      refine am_rcw (rc' := 0) (rs' := 0) ?_ (by omega) (by omega)
      refine am_iconst (v := 0) dL_law_475 (by decide) ?_
      exact am_zret dL_law_476 rfl rfl
    refine am_sw_cons (fun c55 => ?_) (fun c55 => ?_)
    · refine am_rcw (rc' := 0) (rs' := 0) ?_ (by omega) (by omega)
      refine am_aload_n dL_law_477 rfl ?_
      refine am_aload_n dL_law_478 rfl ?_
      refine am_iload_n dL_law_479 rfl ?_
      refine am_iconst (v := 1) dL_law_480 (by decide) ?_
      refine am_iadd dL_law_481 ?_
      refine am_kald dL_law_482 (Or.inr (Or.inr rfl)) ?_
      refine am_callV (cvj := am_ci) (mtj := mX9_deal) (dj := 3) (nj := 1) (rcj := 0) (rsj := 0) (rc' := 0) (rs' := 0) (ci := 9) (st' := fun a9 => (am_I a9 :: [])) ⟨_, rfl, rfl⟩ [am_I ((am_kc xs 8).getD (l3 + (1 : Int32)).toNatClampNeg 0)] [] dL_law_483 okX9_deal lk_R_law_44 (fun zA zH zE => txX9_deal l1 ((am_kc xs 8).getD (l3 + (1 : Int32)).toNatClampNeg 0) h zA zH zE) rfl (fun _ => rfl) (by decide) rfl (Nat.le_of_ble_eq_true rfl) (by omega) (by omega) (fun r50 h51 => ?_)
      refine am_aload_n dL_law_486 rfl ?_
      refine am_aload_n dL_law_487 rfl ?_
      refine am_iload_n dL_law_488 rfl ?_
      refine am_iconst (v := 1) dL_law_489 (by decide) ?_
      refine am_iadd dL_law_490 ?_
      refine am_kald dL_law_491 (Or.inr (Or.inr rfl)) ?_
      refine am_callV (cvj := am_ci) (mtj := mX10_deal) (dj := 2) (nj := 1) (rcj := 0) (rsj := 0) (rc' := 0) (rs' := 0) (ci := 10) (st' := fun a9 => (am_I a9 :: [am_I r50])) ⟨_, rfl, rfl⟩ [am_I ((am_kc xs 8).getD (l3 + (1 : Int32)).toNatClampNeg 0)] [am_I r50] dL_law_492 okX10_deal lk_R_law_48 (fun zA zH zE => txX10_deal l2 ((am_kc xs 8).getD (l3 + (1 : Int32)).toNatClampNeg 0) h51 zA zH zE) rfl (fun _ => rfl) (by decide) rfl (Nat.le_of_ble_eq_true rfl) (by omega) (by omega) (fun r52 h53 => ?_)
      refine am_icmp_eq (tgt := 1402) dL_law_495 (by decide) (fun c54 => ?_) (fun c54 => ?_)
      · exact am_weak (sxL_law_b1402 (fxL_law_b18 xs n) ih l1 l2 l3 h53) ⟨rfl, ⟨rfl, ⟨rfl, ⟨rfl, trivial⟩⟩⟩⟩ (by first | omega | (unfold am_G; omega)) (by first | omega | (unfold am_G; omega))
      refine am_rcw (rc' := 0) (rs' := 0) ?_ (by omega) (by omega)
      refine am_iconst (v := 0) dL_law_498 (by decide) ?_
      exact am_zret dL_law_499 rfl rfl
    refine am_sw_cons (fun c61 => ?_) (fun c61 => ?_)
    · refine am_rcw (rc' := 0) (rs' := 0) ?_ (by omega) (by omega)
      refine am_aload_n dL_law_500 rfl ?_
      refine am_aload_n dL_law_501 rfl ?_
      refine am_iload_n dL_law_502 rfl ?_
      refine am_iconst (v := 1) dL_law_503 (by decide) ?_
      refine am_iadd dL_law_504 ?_
      refine am_kald dL_law_505 (Or.inr (Or.inr rfl)) ?_
      refine am_callV (cvj := am_ci) (mtj := mX9_seed) (dj := 0) (nj := 1) (rcj := 0) (rsj := 0) (rc' := 0) (rs' := 0) (ci := 9) (st' := fun a9 => (am_I a9 :: [])) ⟨_, rfl, rfl⟩ [am_I ((am_kc xs 8).getD (l3 + (1 : Int32)).toNatClampNeg 0)] [] dL_law_506 okX9_seed lk_R_law_49 (fun zA zH zE => txX9_seed l1 ((am_kc xs 8).getD (l3 + (1 : Int32)).toNatClampNeg 0) h zA zH zE) rfl (fun _ => rfl) (by decide) rfl (Nat.le_of_ble_eq_true rfl) (by omega) (by omega) (fun r56 h57 => ?_)
      refine am_aload_n dL_law_509 rfl ?_
      refine am_aload_n dL_law_510 rfl ?_
      refine am_iload_n dL_law_511 rfl ?_
      refine am_iconst (v := 1) dL_law_512 (by decide) ?_
      refine am_iadd dL_law_513 ?_
      refine am_kald dL_law_514 (Or.inr (Or.inr rfl)) ?_
      refine am_callV (cvj := am_ci) (mtj := mX10_seed) (dj := 1) (nj := 1) (rcj := 0) (rsj := 0) (rc' := 0) (rs' := 0) (ci := 10) (st' := fun a9 => (am_I a9 :: [am_I r56])) ⟨_, rfl, rfl⟩ [am_I ((am_kc xs 8).getD (l3 + (1 : Int32)).toNatClampNeg 0)] [am_I r56] dL_law_515 okX10_seed lk_R_law_52 (fun zA zH zE => txX10_seed l2 ((am_kc xs 8).getD (l3 + (1 : Int32)).toNatClampNeg 0) h57 zA zH zE) rfl (fun _ => rfl) (by decide) rfl (Nat.le_of_ble_eq_true rfl) (by omega) (by omega) (fun r58 h59 => ?_)
      refine am_icmp_eq (tgt := 1402) dL_law_518 (by decide) (fun c60 => ?_) (fun c60 => ?_)
      · exact am_weak (sxL_law_b1402 (fxL_law_b18 xs n) ih l1 l2 l3 h59) ⟨rfl, ⟨rfl, ⟨rfl, ⟨rfl, trivial⟩⟩⟩⟩ (by first | omega | (unfold am_G; omega)) (by first | omega | (unfold am_G; omega))
      refine am_rcw (rc' := 0) (rs' := 0) ?_ (by omega) (by omega)
      refine am_iconst (v := 0) dL_law_521 (by decide) ?_
      exact am_zret dL_law_522 rfl rfl
    refine am_sw_cons (fun c67 => ?_) (fun c67 => ?_)
    · refine am_rcw (rc' := 0) (rs' := 0) ?_ (by omega) (by omega)
      refine am_aload_n dL_law_523 rfl ?_
      refine am_aload_n dL_law_524 rfl ?_
      refine am_iload_n dL_law_525 rfl ?_
      refine am_iconst (v := 1) dL_law_526 (by decide) ?_
      refine am_iadd dL_law_527 ?_
      refine am_kald dL_law_528 (Or.inr (Or.inr rfl)) ?_
      refine am_callV (cvj := am_ci) (mtj := mX9_best) (dj := 5) (nj := 1) (rcj := 0) (rsj := 0) (rc' := 0) (rs' := 0) (ci := 9) (st' := fun a9 => (am_I a9 :: [])) ⟨_, rfl, rfl⟩ [am_I ((am_kc xs 8).getD (l3 + (1 : Int32)).toNatClampNeg 0)] [] dL_law_529 okX9_best lk_R_law_53 (fun zA zH zE => txX9_best l1 ((am_kc xs 8).getD (l3 + (1 : Int32)).toNatClampNeg 0) h zA zH zE) rfl (fun _ => rfl) (by decide) rfl (Nat.le_of_ble_eq_true rfl) (by omega) (by omega) (fun r62 h63 => ?_)
      refine am_aload_n dL_law_532 rfl ?_
      refine am_aload_n dL_law_533 rfl ?_
      refine am_iload_n dL_law_534 rfl ?_
      refine am_iconst (v := 1) dL_law_535 (by decide) ?_
      refine am_iadd dL_law_536 ?_
      refine am_kald dL_law_537 (Or.inr (Or.inr rfl)) ?_
      refine am_callV (cvj := am_ci) (mtj := mX10_best) (dj := 4) (nj := 1) (rcj := 0) (rsj := 0) (rc' := 0) (rs' := 0) (ci := 10) (st' := fun a9 => (am_I a9 :: [am_I r62])) ⟨_, rfl, rfl⟩ [am_I ((am_kc xs 8).getD (l3 + (1 : Int32)).toNatClampNeg 0)] [am_I r62] dL_law_538 okX10_best lk_R_law_56 (fun zA zH zE => txX10_best l2 ((am_kc xs 8).getD (l3 + (1 : Int32)).toNatClampNeg 0) h63 zA zH zE) rfl (fun _ => rfl) (by decide) rfl (Nat.le_of_ble_eq_true rfl) (by omega) (by omega) (fun r64 h65 => ?_)
      refine am_icmp_eq (tgt := 1402) dL_law_541 (by decide) (fun c66 => ?_) (fun c66 => ?_)
      · exact am_weak (sxL_law_b1402 (fxL_law_b18 xs n) ih l1 l2 l3 h65) ⟨rfl, ⟨rfl, ⟨rfl, ⟨rfl, trivial⟩⟩⟩⟩ (by first | omega | (unfold am_G; omega)) (by first | omega | (unfold am_G; omega))
      refine am_rcw (rc' := 0) (rs' := 0) ?_ (by omega) (by omega)
      refine am_iconst (v := 0) dL_law_544 (by decide) ?_
      exact am_zret dL_law_545 rfl rfl
    refine am_sw_cons (fun c73 => ?_) (fun c73 => ?_)
    · refine am_rcw (rc' := 0) (rs' := 0) ?_ (by omega) (by omega)
      refine am_aload_n dL_law_546 rfl ?_
      refine am_aload_n dL_law_547 rfl ?_
      refine am_iload_n dL_law_548 rfl ?_
      refine am_iconst (v := 1) dL_law_549 (by decide) ?_
      refine am_iadd dL_law_550 ?_
      refine am_kald dL_law_551 (Or.inr (Or.inr rfl)) ?_
      refine am_callV (cvj := am_ci) (mtj := mX9_partner) (dj := 5) (nj := 1) (rcj := 0) (rsj := 0) (rc' := 0) (rs' := 0) (ci := 9) (st' := fun a9 => (am_I a9 :: [])) ⟨_, rfl, rfl⟩ [am_I ((am_kc xs 8).getD (l3 + (1 : Int32)).toNatClampNeg 0)] [] dL_law_552 okX9_partner lk_R_law_57 (fun zA zH zE => txX9_partner l1 ((am_kc xs 8).getD (l3 + (1 : Int32)).toNatClampNeg 0) h zA zH zE) rfl (fun _ => rfl) (by decide) rfl (Nat.le_of_ble_eq_true rfl) (by omega) (by omega) (fun r68 h69 => ?_)
      refine am_aload_n dL_law_555 rfl ?_
      refine am_aload_n dL_law_556 rfl ?_
      refine am_iload_n dL_law_557 rfl ?_
      refine am_iconst (v := 1) dL_law_558 (by decide) ?_
      refine am_iadd dL_law_559 ?_
      refine am_kald dL_law_560 (Or.inr (Or.inr rfl)) ?_
      refine am_callV (cvj := am_ci) (mtj := mX10_partner) (dj := 4) (nj := 1) (rcj := 0) (rsj := 0) (rc' := 0) (rs' := 0) (ci := 10) (st' := fun a9 => (am_I a9 :: [am_I r68])) ⟨_, rfl, rfl⟩ [am_I ((am_kc xs 8).getD (l3 + (1 : Int32)).toNatClampNeg 0)] [am_I r68] dL_law_561 okX10_partner lk_R_law_60 (fun zA zH zE => txX10_partner l2 ((am_kc xs 8).getD (l3 + (1 : Int32)).toNatClampNeg 0) h69 zA zH zE) rfl (fun _ => rfl) (by decide) rfl (Nat.le_of_ble_eq_true rfl) (by omega) (by omega) (fun r70 h71 => ?_)
      refine am_icmp_eq (tgt := 1402) dL_law_564 (by decide) (fun c72 => ?_) (fun c72 => ?_)
      · exact am_weak (sxL_law_b1402 (fxL_law_b18 xs n) ih l1 l2 l3 h71) ⟨rfl, ⟨rfl, ⟨rfl, ⟨rfl, trivial⟩⟩⟩⟩ (by first | omega | (unfold am_G; omega)) (by first | omega | (unfold am_G; omega))
      refine am_rcw (rc' := 0) (rs' := 0) ?_ (by omega) (by omega)
      refine am_iconst (v := 0) dL_law_567 (by decide) ?_
      exact am_zret dL_law_568 rfl rfl
    refine am_sw_cons (fun c79 => ?_) (fun c79 => ?_)
    · refine am_rcw (rc' := 0) (rs' := 0) ?_ (by omega) (by omega)
      refine am_aload_n dL_law_569 rfl ?_
      refine am_aload_n dL_law_570 rfl ?_
      refine am_iload_n dL_law_571 rfl ?_
      refine am_iconst (v := 1) dL_law_572 (by decide) ?_
      refine am_iadd dL_law_573 ?_
      refine am_kald dL_law_574 (Or.inr (Or.inr rfl)) ?_
      refine am_callV (cvj := am_ci) (mtj := mX9_adds) (dj := 5) (nj := 1) (rcj := 0) (rsj := 0) (rc' := 0) (rs' := 0) (ci := 9) (st' := fun a9 => (am_I a9 :: [])) ⟨_, rfl, rfl⟩ [am_I ((am_kc xs 8).getD (l3 + (1 : Int32)).toNatClampNeg 0)] [] dL_law_575 okX9_adds lk_R_law_61 (fun zA zH zE => txX9_adds l1 ((am_kc xs 8).getD (l3 + (1 : Int32)).toNatClampNeg 0) h zA zH zE) rfl (fun _ => rfl) (by decide) rfl (Nat.le_of_ble_eq_true rfl) (by omega) (by omega) (fun r74 h75 => ?_)
      refine am_aload_n dL_law_578 rfl ?_
      refine am_aload_n dL_law_579 rfl ?_
      refine am_iload_n dL_law_580 rfl ?_
      refine am_iconst (v := 1) dL_law_581 (by decide) ?_
      refine am_iadd dL_law_582 ?_
      refine am_kald dL_law_583 (Or.inr (Or.inr rfl)) ?_
      refine am_callV (cvj := am_ci) (mtj := mX10_adds) (dj := 4) (nj := 1) (rcj := 0) (rsj := 0) (rc' := 0) (rs' := 0) (ci := 10) (st' := fun a9 => (am_I a9 :: [am_I r74])) ⟨_, rfl, rfl⟩ [am_I ((am_kc xs 8).getD (l3 + (1 : Int32)).toNatClampNeg 0)] [am_I r74] dL_law_584 okX10_adds lk_R_law_64 (fun zA zH zE => txX10_adds l2 ((am_kc xs 8).getD (l3 + (1 : Int32)).toNatClampNeg 0) h75 zA zH zE) rfl (fun _ => rfl) (by decide) rfl (Nat.le_of_ble_eq_true rfl) (by omega) (by omega) (fun r76 h77 => ?_)
      refine am_icmp_eq (tgt := 1402) dL_law_587 (by decide) (fun c78 => ?_) (fun c78 => ?_)
      · exact am_weak (sxL_law_b1402 (fxL_law_b18 xs n) ih l1 l2 l3 h77) ⟨rfl, ⟨rfl, ⟨rfl, ⟨rfl, trivial⟩⟩⟩⟩ (by first | omega | (unfold am_G; omega)) (by first | omega | (unfold am_G; omega))
      refine am_rcw (rc' := 0) (rs' := 0) ?_ (by omega) (by omega)
      refine am_iconst (v := 0) dL_law_590 (by decide) ?_
      exact am_zret dL_law_591 rfl rfl
    refine am_sw_cons (fun c85 => ?_) (fun c85 => ?_)
    · refine am_rcw (rc' := 0) (rs' := 0) ?_ (by omega) (by omega)
      refine am_aload_n dL_law_592 rfl ?_
      refine am_aload_n dL_law_593 rfl ?_
      refine am_iload_n dL_law_594 rfl ?_
      refine am_iconst (v := 1) dL_law_595 (by decide) ?_
      refine am_iadd dL_law_596 ?_
      refine am_kald dL_law_597 (Or.inr (Or.inr rfl)) ?_
      refine am_callV (cvj := am_ci) (mtj := mX9_leaves) (dj := 5) (nj := 1) (rcj := 0) (rsj := 0) (rc' := 0) (rs' := 0) (ci := 9) (st' := fun a9 => (am_I a9 :: [])) ⟨_, rfl, rfl⟩ [am_I ((am_kc xs 8).getD (l3 + (1 : Int32)).toNatClampNeg 0)] [] dL_law_598 okX9_leaves lk_R_law_65 (fun zA zH zE => txX9_leaves l1 ((am_kc xs 8).getD (l3 + (1 : Int32)).toNatClampNeg 0) h zA zH zE) rfl (fun _ => rfl) (by decide) rfl (Nat.le_of_ble_eq_true rfl) (by omega) (by omega) (fun r80 h81 => ?_)
      refine am_aload_n dL_law_601 rfl ?_
      refine am_aload_n dL_law_602 rfl ?_
      refine am_iload_n dL_law_603 rfl ?_
      refine am_iconst (v := 1) dL_law_604 (by decide) ?_
      refine am_iadd dL_law_605 ?_
      refine am_kald dL_law_606 (Or.inr (Or.inr rfl)) ?_
      refine am_callV (cvj := am_ci) (mtj := mX10_leaves) (dj := 4) (nj := 1) (rcj := 0) (rsj := 0) (rc' := 0) (rs' := 0) (ci := 10) (st' := fun a9 => (am_I a9 :: [am_I r80])) ⟨_, rfl, rfl⟩ [am_I ((am_kc xs 8).getD (l3 + (1 : Int32)).toNatClampNeg 0)] [am_I r80] dL_law_607 okX10_leaves lk_R_law_68 (fun zA zH zE => txX10_leaves l2 ((am_kc xs 8).getD (l3 + (1 : Int32)).toNatClampNeg 0) h81 zA zH zE) rfl (fun _ => rfl) (by decide) rfl (Nat.le_of_ble_eq_true rfl) (by omega) (by omega) (fun r82 h83 => ?_)
      refine am_icmp_eq (tgt := 1402) dL_law_610 (by decide) (fun c84 => ?_) (fun c84 => ?_)
      · exact am_weak (sxL_law_b1402 (fxL_law_b18 xs n) ih l1 l2 l3 h83) ⟨rfl, ⟨rfl, ⟨rfl, ⟨rfl, trivial⟩⟩⟩⟩ (by first | omega | (unfold am_G; omega)) (by first | omega | (unfold am_G; omega))
      refine am_rcw (rc' := 0) (rs' := 0) ?_ (by omega) (by omega)
      refine am_iconst (v := 0) dL_law_613 (by decide) ?_
      exact am_zret dL_law_614 rfl rfl
    refine am_sw_cons (fun c91 => ?_) (fun c91 => ?_)
    · refine am_rcw (rc' := 0) (rs' := 0) ?_ (by omega) (by omega)
      refine am_aload_n dL_law_615 rfl ?_
      refine am_aload_n dL_law_616 rfl ?_
      refine am_iload_n dL_law_617 rfl ?_
      refine am_iconst (v := 1) dL_law_618 (by decide) ?_
      refine am_iadd dL_law_619 ?_
      refine am_kald dL_law_620 (Or.inr (Or.inr rfl)) ?_
      refine am_callV (cvj := am_ci) (mtj := mX9_loss) (dj := 1) (nj := 1) (rcj := 0) (rsj := 0) (rc' := 0) (rs' := 0) (ci := 9) (st' := fun a9 => (am_I a9 :: [])) ⟨_, rfl, rfl⟩ [am_I ((am_kc xs 8).getD (l3 + (1 : Int32)).toNatClampNeg 0)] [] dL_law_621 okX9_loss lk_R_law_69 (fun zA zH zE => txX9_loss l1 ((am_kc xs 8).getD (l3 + (1 : Int32)).toNatClampNeg 0) h zA zH zE) rfl (fun _ => rfl) (by decide) rfl (Nat.le_of_ble_eq_true rfl) (by omega) (by omega) (fun r86 h87 => ?_)
      refine am_aload_n dL_law_624 rfl ?_
      refine am_aload_n dL_law_625 rfl ?_
      refine am_iload_n dL_law_626 rfl ?_
      refine am_iconst (v := 1) dL_law_627 (by decide) ?_
      refine am_iadd dL_law_628 ?_
      refine am_kald dL_law_629 (Or.inr (Or.inr rfl)) ?_
      refine am_callV (cvj := am_ci) (mtj := mX10_loss) (dj := 1) (nj := 1) (rcj := 0) (rsj := 0) (rc' := 0) (rs' := 0) (ci := 10) (st' := fun a9 => (am_I a9 :: [am_I r86])) ⟨_, rfl, rfl⟩ [am_I ((am_kc xs 8).getD (l3 + (1 : Int32)).toNatClampNeg 0)] [am_I r86] dL_law_630 okX10_loss lk_R_law_72 (fun zA zH zE => txX10_loss l2 ((am_kc xs 8).getD (l3 + (1 : Int32)).toNatClampNeg 0) h87 zA zH zE) rfl (fun _ => rfl) (by decide) rfl (Nat.le_of_ble_eq_true rfl) (by omega) (by omega) (fun r88 h89 => ?_)
      refine am_icmp_eq (tgt := 1402) dL_law_633 (by decide) (fun c90 => ?_) (fun c90 => ?_)
      · exact am_weak (sxL_law_b1402 (fxL_law_b18 xs n) ih l1 l2 l3 h89) ⟨rfl, ⟨rfl, ⟨rfl, ⟨rfl, trivial⟩⟩⟩⟩ (by first | omega | (unfold am_G; omega)) (by first | omega | (unfold am_G; omega))
      refine am_rcw (rc' := 0) (rs' := 0) ?_ (by omega) (by omega)
      refine am_iconst (v := 0) dL_law_636 (by decide) ?_
      exact am_zret dL_law_637 rfl rfl
    refine am_sw_cons (fun c97 => ?_) (fun c97 => ?_)
    · refine am_rcw (rc' := 0) (rs' := 0) ?_ (by omega) (by omega)
      refine am_aload_n dL_law_638 rfl ?_
      refine am_aload_n dL_law_639 rfl ?_
      refine am_iload_n dL_law_640 rfl ?_
      refine am_iconst (v := 1) dL_law_641 (by decide) ?_
      refine am_iadd dL_law_642 ?_
      refine am_kald dL_law_643 (Or.inr (Or.inr rfl)) ?_
      refine am_callV (cvj := am_ci) (mtj := mX9_days) (dj := 5) (nj := 1) (rcj := 0) (rsj := 0) (rc' := 0) (rs' := 0) (ci := 9) (st' := fun a9 => (am_I a9 :: [])) ⟨_, rfl, rfl⟩ [am_I ((am_kc xs 8).getD (l3 + (1 : Int32)).toNatClampNeg 0)] [] dL_law_644 okX9_days lk_R_law_73 (fun zA zH zE => txX9_days l1 ((am_kc xs 8).getD (l3 + (1 : Int32)).toNatClampNeg 0) h zA zH zE) rfl (fun _ => rfl) (by decide) rfl (Nat.le_of_ble_eq_true rfl) (by omega) (by omega) (fun r92 h93 => ?_)
      refine am_aload_n dL_law_647 rfl ?_
      refine am_aload_n dL_law_648 rfl ?_
      refine am_iload_n dL_law_649 rfl ?_
      refine am_iconst (v := 1) dL_law_650 (by decide) ?_
      refine am_iadd dL_law_651 ?_
      refine am_kald dL_law_652 (Or.inr (Or.inr rfl)) ?_
      refine am_callV (cvj := am_ci) (mtj := mX10_days) (dj := 5) (nj := 1) (rcj := 0) (rsj := 0) (rc' := 0) (rs' := 0) (ci := 10) (st' := fun a9 => (am_I a9 :: [am_I r92])) ⟨_, rfl, rfl⟩ [am_I ((am_kc xs 8).getD (l3 + (1 : Int32)).toNatClampNeg 0)] [am_I r92] dL_law_653 okX10_days lk_R_law_76 (fun zA zH zE => txX10_days l2 ((am_kc xs 8).getD (l3 + (1 : Int32)).toNatClampNeg 0) h93 zA zH zE) rfl (fun _ => rfl) (by decide) rfl (Nat.le_of_ble_eq_true rfl) (by omega) (by omega) (fun r94 h95 => ?_)
      refine am_icmp_eq (tgt := 1402) dL_law_656 (by decide) (fun c96 => ?_) (fun c96 => ?_)
      · exact am_weak (sxL_law_b1402 (fxL_law_b18 xs n) ih l1 l2 l3 h95) ⟨rfl, ⟨rfl, ⟨rfl, ⟨rfl, trivial⟩⟩⟩⟩ (by first | omega | (unfold am_G; omega)) (by first | omega | (unfold am_G; omega))
      refine am_rcw (rc' := 0) (rs' := 0) ?_ (by omega) (by omega)
      refine am_iconst (v := 0) dL_law_659 (by decide) ?_
      exact am_zret dL_law_660 rfl rfl
    refine am_sw_cons (fun c103 => ?_) (fun c103 => ?_)
    · refine am_rcw (rc' := 0) (rs' := 0) ?_ (by omega) (by omega)
      refine am_aload_n dL_law_661 rfl ?_
      refine am_aload_n dL_law_662 rfl ?_
      refine am_iload_n dL_law_663 rfl ?_
      refine am_iconst (v := 1) dL_law_664 (by decide) ?_
      refine am_iadd dL_law_665 ?_
      refine am_kald dL_law_666 (Or.inr (Or.inr rfl)) ?_
      refine am_aload_n dL_law_667 rfl ?_
      refine am_iload_n dL_law_668 rfl ?_
      refine am_iconst (v := 2) dL_law_669 (by decide) ?_
      refine am_iadd dL_law_670 ?_
      refine am_kald dL_law_671 (Or.inr (Or.inr rfl)) ?_
      refine am_callV (cvj := am_ci) (mtj := mX9_behind) (dj := 6) (nj := 2) (rcj := 0) (rsj := 0) (rc' := 0) (rs' := 0) (ci := 9) (st' := fun a9 => (am_I a9 :: [])) ⟨_, rfl, rfl⟩ [am_I ((am_kc xs 8).getD (l3 + (1 : Int32)).toNatClampNeg 0), am_I ((am_kc xs 8).getD (l3 + (2 : Int32)).toNatClampNeg 0)] [] dL_law_672 okX9_behind lk_R_law_77 (fun zA zH zE => txX9_behind l1 ((am_kc xs 8).getD (l3 + (1 : Int32)).toNatClampNeg 0) ((am_kc xs 8).getD (l3 + (2 : Int32)).toNatClampNeg 0) h zA zH zE) rfl (fun _ => rfl) (by decide) rfl (Nat.le_of_ble_eq_true rfl) (by omega) (by omega) (fun r98 h99 => ?_)
      refine am_aload_n dL_law_675 rfl ?_
      refine am_aload_n dL_law_676 rfl ?_
      refine am_iload_n dL_law_677 rfl ?_
      refine am_iconst (v := 1) dL_law_678 (by decide) ?_
      refine am_iadd dL_law_679 ?_
      refine am_kald dL_law_680 (Or.inr (Or.inr rfl)) ?_
      refine am_aload_n dL_law_681 rfl ?_
      refine am_iload_n dL_law_682 rfl ?_
      refine am_iconst (v := 2) dL_law_683 (by decide) ?_
      refine am_iadd dL_law_684 ?_
      refine am_kald dL_law_685 (Or.inr (Or.inr rfl)) ?_
      refine am_callV (cvj := am_ci) (mtj := mX10_behind) (dj := 5) (nj := 2) (rcj := 0) (rsj := 0) (rc' := 0) (rs' := 0) (ci := 10) (st' := fun a9 => (am_I a9 :: [am_I r98])) ⟨_, rfl, rfl⟩ [am_I ((am_kc xs 8).getD (l3 + (1 : Int32)).toNatClampNeg 0), am_I ((am_kc xs 8).getD (l3 + (2 : Int32)).toNatClampNeg 0)] [am_I r98] dL_law_686 okX10_behind lk_R_law_80 (fun zA zH zE => txX10_behind l2 ((am_kc xs 8).getD (l3 + (1 : Int32)).toNatClampNeg 0) ((am_kc xs 8).getD (l3 + (2 : Int32)).toNatClampNeg 0) h99 zA zH zE) rfl (fun _ => rfl) (by decide) rfl (Nat.le_of_ble_eq_true rfl) (by omega) (by omega) (fun r100 h101 => ?_)
      refine am_icmp_eq (tgt := 1402) dL_law_689 (by decide) (fun c102 => ?_) (fun c102 => ?_)
      · exact am_weak (sxL_law_b1402 (fxL_law_b18 xs n) ih l1 l2 l3 h101) ⟨rfl, ⟨rfl, ⟨rfl, ⟨rfl, trivial⟩⟩⟩⟩ (by first | omega | (unfold am_G; omega)) (by first | omega | (unfold am_G; omega))
      refine am_rcw (rc' := 0) (rs' := 0) ?_ (by omega) (by omega)
      refine am_iconst (v := 0) dL_law_692 (by decide) ?_
      exact am_zret dL_law_693 rfl rfl
    refine am_sw_cons (fun c109 => ?_) (fun c109 => ?_)
    · refine am_rcw (rc' := 0) (rs' := 0) ?_ (by omega) (by omega)
      refine am_aload_n dL_law_694 rfl ?_
      refine am_aload_n dL_law_695 rfl ?_
      refine am_iload_n dL_law_696 rfl ?_
      refine am_iconst (v := 1) dL_law_697 (by decide) ?_
      refine am_iadd dL_law_698 ?_
      refine am_kald dL_law_699 (Or.inr (Or.inr rfl)) ?_
      refine am_callV (cvj := am_ci) (mtj := mX9_keepHome) (dj := 6) (nj := 1) (rcj := 0) (rsj := 0) (rc' := 0) (rs' := 0) (ci := 9) (st' := fun a9 => (am_I a9 :: [])) ⟨_, rfl, rfl⟩ [am_I ((am_kc xs 8).getD (l3 + (1 : Int32)).toNatClampNeg 0)] [] dL_law_700 okX9_keepHome lk_R_law_81 (fun zA zH zE => txX9_keepHome l1 ((am_kc xs 8).getD (l3 + (1 : Int32)).toNatClampNeg 0) h zA zH zE) rfl (fun _ => rfl) (by decide) rfl (Nat.le_of_ble_eq_true rfl) (by omega) (by omega) (fun r104 h105 => ?_)
      refine am_aload_n dL_law_703 rfl ?_
      refine am_aload_n dL_law_704 rfl ?_
      refine am_iload_n dL_law_705 rfl ?_
      refine am_iconst (v := 1) dL_law_706 (by decide) ?_
      refine am_iadd dL_law_707 ?_
      refine am_kald dL_law_708 (Or.inr (Or.inr rfl)) ?_
      refine am_callV (cvj := am_ci) (mtj := mX10_keepHome) (dj := 5) (nj := 1) (rcj := 0) (rsj := 0) (rc' := 0) (rs' := 0) (ci := 10) (st' := fun a9 => (am_I a9 :: [am_I r104])) ⟨_, rfl, rfl⟩ [am_I ((am_kc xs 8).getD (l3 + (1 : Int32)).toNatClampNeg 0)] [am_I r104] dL_law_709 okX10_keepHome lk_R_law_84 (fun zA zH zE => txX10_keepHome l2 ((am_kc xs 8).getD (l3 + (1 : Int32)).toNatClampNeg 0) h105 zA zH zE) rfl (fun _ => rfl) (by decide) rfl (Nat.le_of_ble_eq_true rfl) (by omega) (by omega) (fun r106 h107 => ?_)
      refine am_icmp_eq (tgt := 1402) dL_law_712 (by decide) (fun c108 => ?_) (fun c108 => ?_)
      · exact am_weak (sxL_law_b1402 (fxL_law_b18 xs n) ih l1 l2 l3 h107) ⟨rfl, ⟨rfl, ⟨rfl, ⟨rfl, trivial⟩⟩⟩⟩ (by first | omega | (unfold am_G; omega)) (by first | omega | (unfold am_G; omega))
      refine am_rcw (rc' := 0) (rs' := 0) ?_ (by omega) (by omega)
      refine am_iconst (v := 0) dL_law_715 (by decide) ?_
      exact am_zret dL_law_716 rfl rfl
    refine am_sw_cons (fun c115 => ?_) (fun c115 => ?_)
    · refine am_rcw (rc' := 0) (rs' := 0) ?_ (by omega) (by omega)
      refine am_aload_n dL_law_717 rfl ?_
      refine am_callV (cvj := am_ci) (mtj := mX9_fine) (dj := 3) (nj := 0) (rcj := 0) (rsj := 0) (rc' := 0) (rs' := 0) (ci := 9) (st' := fun a9 => (am_I a9 :: [])) ⟨_, rfl, rfl⟩ [] [] dL_law_718 okX9_fine lk_R_law_85 (fun zA zH zE => txX9_fine l1 h zA zH zE) rfl (fun _ => rfl) (by decide) rfl (Nat.le_of_ble_eq_true rfl) (by omega) (by omega) (fun r110 h111 => ?_)
      refine am_aload_n dL_law_721 rfl ?_
      refine am_callV (cvj := am_ci) (mtj := mX10_fine) (dj := 2) (nj := 0) (rcj := 0) (rsj := 0) (rc' := 0) (rs' := 0) (ci := 10) (st' := fun a9 => (am_I a9 :: [am_I r110])) ⟨_, rfl, rfl⟩ [] [am_I r110] dL_law_722 okX10_fine lk_R_law_89 (fun zA zH zE => txX10_fine l2 h111 zA zH zE) rfl (fun _ => rfl) (by decide) rfl (Nat.le_of_ble_eq_true rfl) (by omega) (by omega) (fun r112 h113 => ?_)
      refine am_icmp_eq (tgt := 1402) dL_law_725 (by decide) (fun c114 => ?_) (fun c114 => ?_)
      · exact am_weak (sxL_law_b1402 (fxL_law_b18 xs n) ih l1 l2 l3 h113) ⟨rfl, ⟨rfl, ⟨rfl, ⟨rfl, trivial⟩⟩⟩⟩ (by first | omega | (unfold am_G; omega)) (by first | omega | (unfold am_G; omega))
      refine am_rcw (rc' := 0) (rs' := 0) ?_ (by omega) (by omega)
      refine am_iconst (v := 0) dL_law_728 (by decide) ?_
      exact am_zret dL_law_729 rfl rfl
    refine am_sw_cons (fun c121 => ?_) (fun c121 => ?_)
    · refine am_rcw (rc' := 0) (rs' := 0) ?_ (by omega) (by omega)
      refine am_aload_n dL_law_730 rfl ?_
      refine am_aload_n dL_law_731 rfl ?_
      refine am_iload_n dL_law_732 rfl ?_
      refine am_iconst (v := 1) dL_law_733 (by decide) ?_
      refine am_iadd dL_law_734 ?_
      refine am_kald dL_law_735 (Or.inr (Or.inr rfl)) ?_
      refine am_aload_n dL_law_736 rfl ?_
      refine am_iload_n dL_law_737 rfl ?_
      refine am_iconst (v := 2) dL_law_738 (by decide) ?_
      refine am_iadd dL_law_739 ?_
      refine am_kald dL_law_740 (Or.inr (Or.inr rfl)) ?_
      refine am_callV (cvj := am_ci) (mtj := mX9_worn) (dj := 2) (nj := 2) (rcj := 0) (rsj := 0) (rc' := 0) (rs' := 0) (ci := 9) (st' := fun a9 => (am_I a9 :: [])) ⟨_, rfl, rfl⟩ [am_I ((am_kc xs 8).getD (l3 + (1 : Int32)).toNatClampNeg 0), am_I ((am_kc xs 8).getD (l3 + (2 : Int32)).toNatClampNeg 0)] [] dL_law_741 okX9_worn lk_R_law_90 (fun zA zH zE => txX9_worn l1 ((am_kc xs 8).getD (l3 + (1 : Int32)).toNatClampNeg 0) ((am_kc xs 8).getD (l3 + (2 : Int32)).toNatClampNeg 0) h zA zH zE) rfl (fun _ => rfl) (by decide) rfl (Nat.le_of_ble_eq_true rfl) (by omega) (by omega) (fun r116 h117 => ?_)
      refine am_aload_n dL_law_744 rfl ?_
      refine am_aload_n dL_law_745 rfl ?_
      refine am_iload_n dL_law_746 rfl ?_
      refine am_iconst (v := 1) dL_law_747 (by decide) ?_
      refine am_iadd dL_law_748 ?_
      refine am_kald dL_law_749 (Or.inr (Or.inr rfl)) ?_
      refine am_aload_n dL_law_750 rfl ?_
      refine am_iload_n dL_law_751 rfl ?_
      refine am_iconst (v := 2) dL_law_752 (by decide) ?_
      refine am_iadd dL_law_753 ?_
      refine am_kald dL_law_754 (Or.inr (Or.inr rfl)) ?_
      refine am_callV (cvj := am_ci) (mtj := mX10_worn) (dj := 2) (nj := 2) (rcj := 0) (rsj := 0) (rc' := 0) (rs' := 0) (ci := 10) (st' := fun a9 => (am_I a9 :: [am_I r116])) ⟨_, rfl, rfl⟩ [am_I ((am_kc xs 8).getD (l3 + (1 : Int32)).toNatClampNeg 0), am_I ((am_kc xs 8).getD (l3 + (2 : Int32)).toNatClampNeg 0)] [am_I r116] dL_law_755 okX10_worn lk_R_law_93 (fun zA zH zE => txX10_worn l2 ((am_kc xs 8).getD (l3 + (1 : Int32)).toNatClampNeg 0) ((am_kc xs 8).getD (l3 + (2 : Int32)).toNatClampNeg 0) h117 zA zH zE) rfl (fun _ => rfl) (by decide) rfl (Nat.le_of_ble_eq_true rfl) (by omega) (by omega) (fun r118 h119 => ?_)
      refine am_icmp_eq (tgt := 1402) dL_law_758 (by decide) (fun c120 => ?_) (fun c120 => ?_)
      · exact am_weak (sxL_law_b1402 (fxL_law_b18 xs n) ih l1 l2 l3 h119) ⟨rfl, ⟨rfl, ⟨rfl, ⟨rfl, trivial⟩⟩⟩⟩ (by first | omega | (unfold am_G; omega)) (by first | omega | (unfold am_G; omega))
      refine am_rcw (rc' := 0) (rs' := 0) ?_ (by omega) (by omega)
      refine am_iconst (v := 0) dL_law_761 (by decide) ?_
      exact am_zret dL_law_762 rfl rfl
    refine am_sw_cons (fun c127 => ?_) (fun c127 => ?_)
    · refine am_rcw (rc' := 0) (rs' := 0) ?_ (by omega) (by omega)
      refine am_aload_n dL_law_763 rfl ?_
      refine am_callV (cvj := am_ci) (mtj := mX9_forget) (dj := 0) (nj := 0) (rcj := 0) (rsj := 0) (rc' := 0) (rs' := 0) (ci := 9) (st' := fun a9 => (am_I a9 :: [])) ⟨_, rfl, rfl⟩ [] [] dL_law_764 okX9_forget lk_R_law_94 (fun zA zH zE => txX9_forget l1 h zA zH zE) rfl (fun _ => rfl) (by decide) rfl (Nat.le_of_ble_eq_true rfl) (by omega) (by omega) (fun r122 h123 => ?_)
      refine am_aload_n dL_law_767 rfl ?_
      refine am_callV (cvj := am_ci) (mtj := mX10_forget) (dj := 1) (nj := 0) (rcj := 0) (rsj := 0) (rc' := 0) (rs' := 0) (ci := 10) (st' := fun a9 => (am_I a9 :: [am_I r122])) ⟨_, rfl, rfl⟩ [] [am_I r122] dL_law_768 okX10_forget lk_R_law_97 (fun zA zH zE => txX10_forget l2 h123 zA zH zE) rfl (fun _ => rfl) (by decide) rfl (Nat.le_of_ble_eq_true rfl) (by omega) (by omega) (fun r124 h125 => ?_)
      refine am_icmp_eq (tgt := 1402) dL_law_771 (by decide) (fun c126 => ?_) (fun c126 => ?_)
      · exact am_weak (sxL_law_b1402 (fxL_law_b18 xs n) ih l1 l2 l3 h125) ⟨rfl, ⟨rfl, ⟨rfl, ⟨rfl, trivial⟩⟩⟩⟩ (by first | omega | (unfold am_G; omega)) (by first | omega | (unfold am_G; omega))
      refine am_rcw (rc' := 0) (rs' := 0) ?_ (by omega) (by omega)
      refine am_iconst (v := 0) dL_law_774 (by decide) ?_
      exact am_zret dL_law_775 rfl rfl
    refine am_sw_cons (fun c133 => ?_) (fun c133 => ?_)
    · refine am_rcw (rc' := 0) (rs' := 0) ?_ (by omega) (by omega)
      refine am_aload_n dL_law_776 rfl ?_
      refine am_callV (cvj := am_ci) (mtj := mX9_joins) (dj := 2) (nj := 0) (rcj := 0) (rsj := 0) (rc' := 0) (rs' := 0) (ci := 9) (st' := fun a9 => (am_I a9 :: [])) ⟨_, rfl, rfl⟩ [] [] dL_law_777 okX9_joins lk_R_law_98 (fun zA zH zE => txX9_joins l1 h zA zH zE) rfl (fun _ => rfl) (by decide) rfl (Nat.le_of_ble_eq_true rfl) (by omega) (by omega) (fun r128 h129 => ?_)
      refine am_aload_n dL_law_780 rfl ?_
      refine am_callV (cvj := am_ci) (mtj := mX10_joins) (dj := 3) (nj := 0) (rcj := 0) (rsj := 0) (rc' := 0) (rs' := 0) (ci := 10) (st' := fun a9 => (am_I a9 :: [am_I r128])) ⟨_, rfl, rfl⟩ [] [am_I r128] dL_law_781 okX10_joins lk_R_law_101 (fun zA zH zE => txX10_joins l2 h129 zA zH zE) rfl (fun _ => rfl) (by decide) rfl (Nat.le_of_ble_eq_true rfl) (by omega) (by omega) (fun r130 h131 => ?_)
      refine am_icmp_eq (tgt := 1402) dL_law_784 (by decide) (fun c132 => ?_) (fun c132 => ?_)
      · exact am_weak (sxL_law_b1402 (fxL_law_b18 xs n) ih l1 l2 l3 h131) ⟨rfl, ⟨rfl, ⟨rfl, ⟨rfl, trivial⟩⟩⟩⟩ (by first | omega | (unfold am_G; omega)) (by first | omega | (unfold am_G; omega))
      refine am_rcw (rc' := 0) (rs' := 0) ?_ (by omega) (by omega)
      refine am_iconst (v := 0) dL_law_787 (by decide) ?_
      exact am_zret dL_law_788 rfl rfl
    refine am_sw_cons (fun c139 => ?_) (fun c139 => ?_)
    · refine am_rcw (rc' := 0) (rs' := 0) ?_ (by omega) (by omega)
      refine am_aload_n dL_law_789 rfl ?_
      refine am_aload_n dL_law_790 rfl ?_
      refine am_iload_n dL_law_791 rfl ?_
      refine am_iconst (v := 1) dL_law_792 (by decide) ?_
      refine am_iadd dL_law_793 ?_
      refine am_kald dL_law_794 (Or.inr (Or.inr rfl)) ?_
      refine am_callV (cvj := am_ci) (mtj := mX9_sure) (dj := 2) (nj := 1) (rcj := 0) (rsj := 0) (rc' := 0) (rs' := 0) (ci := 9) (st' := fun a9 => (am_I a9 :: [])) ⟨_, rfl, rfl⟩ [am_I ((am_kc xs 8).getD (l3 + (1 : Int32)).toNatClampNeg 0)] [] dL_law_795 okX9_sure lk_R_law_102 (fun zA zH zE => txX9_sure l1 ((am_kc xs 8).getD (l3 + (1 : Int32)).toNatClampNeg 0) h zA zH zE) rfl (fun _ => rfl) (by decide) rfl (Nat.le_of_ble_eq_true rfl) (by omega) (by omega) (fun r134 h135 => ?_)
      refine am_aload_n dL_law_798 rfl ?_
      refine am_aload_n dL_law_799 rfl ?_
      refine am_iload_n dL_law_800 rfl ?_
      refine am_iconst (v := 1) dL_law_801 (by decide) ?_
      refine am_iadd dL_law_802 ?_
      refine am_kald dL_law_803 (Or.inr (Or.inr rfl)) ?_
      refine am_callV (cvj := am_ci) (mtj := mX10_sure) (dj := 3) (nj := 1) (rcj := 0) (rsj := 0) (rc' := 0) (rs' := 0) (ci := 10) (st' := fun a9 => (am_I a9 :: [am_I r134])) ⟨_, rfl, rfl⟩ [am_I ((am_kc xs 8).getD (l3 + (1 : Int32)).toNatClampNeg 0)] [am_I r134] dL_law_804 okX10_sure lk_R_law_105 (fun zA zH zE => txX10_sure l2 ((am_kc xs 8).getD (l3 + (1 : Int32)).toNatClampNeg 0) h135 zA zH zE) rfl (fun _ => rfl) (by decide) rfl (Nat.le_of_ble_eq_true rfl) (by omega) (by omega) (fun r136 h137 => ?_)
      refine am_icmp_eq (tgt := 1402) dL_law_807 (by decide) (fun c138 => ?_) (fun c138 => ?_)
      · exact am_weak (sxL_law_b1402 (fxL_law_b18 xs n) ih l1 l2 l3 h137) ⟨rfl, ⟨rfl, ⟨rfl, ⟨rfl, trivial⟩⟩⟩⟩ (by first | omega | (unfold am_G; omega)) (by first | omega | (unfold am_G; omega))
      refine am_rcw (rc' := 0) (rs' := 0) ?_ (by omega) (by omega)
      refine am_iconst (v := 0) dL_law_810 (by decide) ?_
      exact am_zret dL_law_811 rfl rfl
    refine am_sw_cons (fun c145 => ?_) (fun c145 => ?_)
    · refine am_rcw (rc' := 0) (rs' := 0) ?_ (by omega) (by omega)
      refine am_aload_n dL_law_812 rfl ?_
      refine am_aload_n dL_law_813 rfl ?_
      refine am_iload_n dL_law_814 rfl ?_
      refine am_iconst (v := 1) dL_law_815 (by decide) ?_
      refine am_iadd dL_law_816 ?_
      refine am_kald dL_law_817 (Or.inr (Or.inr rfl)) ?_
      refine am_callV (cvj := am_ci) (mtj := mX9_better) (dj := 3) (nj := 1) (rcj := 0) (rsj := 0) (rc' := 0) (rs' := 0) (ci := 9) (st' := fun a9 => (am_I a9 :: [])) ⟨_, rfl, rfl⟩ [am_I ((am_kc xs 8).getD (l3 + (1 : Int32)).toNatClampNeg 0)] [] dL_law_818 okX9_better lk_R_law_106 (fun zA zH zE => txX9_better l1 ((am_kc xs 8).getD (l3 + (1 : Int32)).toNatClampNeg 0) h zA zH zE) rfl (fun _ => rfl) (by decide) rfl (Nat.le_of_ble_eq_true rfl) (by omega) (by omega) (fun r140 h141 => ?_)
      refine am_aload_n dL_law_821 rfl ?_
      refine am_aload_n dL_law_822 rfl ?_
      refine am_iload_n dL_law_823 rfl ?_
      refine am_iconst (v := 1) dL_law_824 (by decide) ?_
      refine am_iadd dL_law_825 ?_
      refine am_kald dL_law_826 (Or.inr (Or.inr rfl)) ?_
      refine am_callV (cvj := am_ci) (mtj := mX10_better) (dj := 3) (nj := 1) (rcj := 0) (rsj := 0) (rc' := 0) (rs' := 0) (ci := 10) (st' := fun a9 => (am_I a9 :: [am_I r140])) ⟨_, rfl, rfl⟩ [am_I ((am_kc xs 8).getD (l3 + (1 : Int32)).toNatClampNeg 0)] [am_I r140] dL_law_827 okX10_better lk_R_law_109 (fun zA zH zE => txX10_better l2 ((am_kc xs 8).getD (l3 + (1 : Int32)).toNatClampNeg 0) h141 zA zH zE) rfl (fun _ => rfl) (by decide) rfl (Nat.le_of_ble_eq_true rfl) (by omega) (by omega) (fun r142 h143 => ?_)
      refine am_icmp_eq (tgt := 1402) dL_law_830 (by decide) (fun c144 => ?_) (fun c144 => ?_)
      · exact am_weak (sxL_law_b1402 (fxL_law_b18 xs n) ih l1 l2 l3 h143) ⟨rfl, ⟨rfl, ⟨rfl, ⟨rfl, trivial⟩⟩⟩⟩ (by first | omega | (unfold am_G; omega)) (by first | omega | (unfold am_G; omega))
      refine am_rcw (rc' := 0) (rs' := 0) ?_ (by omega) (by omega)
      refine am_iconst (v := 0) dL_law_833 (by decide) ?_
      exact am_zret dL_law_834 rfl rfl
    refine am_sw_cons (fun c151 => ?_) (fun c151 => ?_)
    · refine am_rcw (rc' := 0) (rs' := 0) ?_ (by omega) (by omega)
      refine am_aload_n dL_law_835 rfl ?_
      refine am_aload_n dL_law_836 rfl ?_
      refine am_iload_n dL_law_837 rfl ?_
      refine am_iconst (v := 1) dL_law_838 (by decide) ?_
      refine am_iadd dL_law_839 ?_
      refine am_kald dL_law_840 (Or.inr (Or.inr rfl)) ?_
      refine am_aload_n dL_law_841 rfl ?_
      refine am_iload_n dL_law_842 rfl ?_
      refine am_iconst (v := 2) dL_law_843 (by decide) ?_
      refine am_iadd dL_law_844 ?_
      refine am_kald dL_law_845 (Or.inr (Or.inr rfl)) ?_
      refine am_aload_n dL_law_846 rfl ?_
      refine am_iload_n dL_law_847 rfl ?_
      refine am_iconst (v := 3) dL_law_848 (by decide) ?_
      refine am_iadd dL_law_849 ?_
      refine am_kald dL_law_850 (Or.inr (Or.inr rfl)) ?_
      refine am_callV (cvj := am_ci) (mtj := mX9_feed) (dj := 1) (nj := 3) (rcj := 0) (rsj := 0) (rc' := 0) (rs' := 0) (ci := 9) (st' := fun a9 => (am_I a9 :: [])) ⟨_, rfl, rfl⟩ [am_I ((am_kc xs 8).getD (l3 + (1 : Int32)).toNatClampNeg 0), am_I ((am_kc xs 8).getD (l3 + (2 : Int32)).toNatClampNeg 0), am_I ((am_kc xs 8).getD (l3 + (3 : Int32)).toNatClampNeg 0)] [] dL_law_851 okX9_feed lk_R_law_110 (fun zA zH zE => txX9_feed l1 ((am_kc xs 8).getD (l3 + (1 : Int32)).toNatClampNeg 0) ((am_kc xs 8).getD (l3 + (2 : Int32)).toNatClampNeg 0) ((am_kc xs 8).getD (l3 + (3 : Int32)).toNatClampNeg 0) h zA zH zE) rfl (fun _ => rfl) (by decide) rfl (Nat.le_of_ble_eq_true rfl) (by omega) (by omega) (fun r146 h147 => ?_)
      refine am_aload_n dL_law_854 rfl ?_
      refine am_aload_n dL_law_855 rfl ?_
      refine am_iload_n dL_law_856 rfl ?_
      refine am_iconst (v := 1) dL_law_857 (by decide) ?_
      refine am_iadd dL_law_858 ?_
      refine am_kald dL_law_859 (Or.inr (Or.inr rfl)) ?_
      refine am_aload_n dL_law_860 rfl ?_
      refine am_iload_n dL_law_861 rfl ?_
      refine am_iconst (v := 2) dL_law_862 (by decide) ?_
      refine am_iadd dL_law_863 ?_
      refine am_kald dL_law_864 (Or.inr (Or.inr rfl)) ?_
      refine am_aload_n dL_law_865 rfl ?_
      refine am_iload_n dL_law_866 rfl ?_
      refine am_iconst (v := 3) dL_law_867 (by decide) ?_
      refine am_iadd dL_law_868 ?_
      refine am_kald dL_law_869 (Or.inr (Or.inr rfl)) ?_
      refine am_callV (cvj := am_ci) (mtj := mX10_feed) (dj := 0) (nj := 3) (rcj := 0) (rsj := 0) (rc' := 0) (rs' := 0) (ci := 10) (st' := fun a9 => (am_I a9 :: [am_I r146])) ⟨_, rfl, rfl⟩ [am_I ((am_kc xs 8).getD (l3 + (1 : Int32)).toNatClampNeg 0), am_I ((am_kc xs 8).getD (l3 + (2 : Int32)).toNatClampNeg 0), am_I ((am_kc xs 8).getD (l3 + (3 : Int32)).toNatClampNeg 0)] [am_I r146] dL_law_870 okX10_feed lk_R_law_113 (fun zA zH zE => txX10_feed l2 ((am_kc xs 8).getD (l3 + (1 : Int32)).toNatClampNeg 0) ((am_kc xs 8).getD (l3 + (2 : Int32)).toNatClampNeg 0) ((am_kc xs 8).getD (l3 + (3 : Int32)).toNatClampNeg 0) h147 zA zH zE) rfl (fun _ => rfl) (by decide) rfl (Nat.le_of_ble_eq_true rfl) (by omega) (by omega) (fun r148 h149 => ?_)
      refine am_icmp_eq (tgt := 1402) dL_law_873 (by decide) (fun c150 => ?_) (fun c150 => ?_)
      · exact am_weak (sxL_law_b1402 (fxL_law_b18 xs n) ih l1 l2 l3 h149) ⟨rfl, ⟨rfl, ⟨rfl, ⟨rfl, trivial⟩⟩⟩⟩ (by first | omega | (unfold am_G; omega)) (by first | omega | (unfold am_G; omega))
      refine am_rcw (rc' := 0) (rs' := 0) ?_ (by omega) (by omega)
      refine am_iconst (v := 0) dL_law_876 (by decide) ?_
      exact am_zret dL_law_877 rfl rfl
    refine am_sw_cons (fun c157 => ?_) (fun c157 => ?_)
    · refine am_rcw (rc' := 0) (rs' := 0) ?_ (by omega) (by omega)
      refine am_aload_n dL_law_878 rfl ?_
      refine am_aload_n dL_law_879 rfl ?_
      refine am_iload_n dL_law_880 rfl ?_
      refine am_iconst (v := 1) dL_law_881 (by decide) ?_
      refine am_iadd dL_law_882 ?_
      refine am_kald dL_law_883 (Or.inr (Or.inr rfl)) ?_
      refine am_callV (cvj := am_ci) (mtj := mX9_trim) (dj := 1) (nj := 1) (rcj := 0) (rsj := 0) (rc' := 0) (rs' := 0) (ci := 9) (st' := fun a9 => (am_I a9 :: [])) ⟨_, rfl, rfl⟩ [am_I ((am_kc xs 8).getD (l3 + (1 : Int32)).toNatClampNeg 0)] [] dL_law_884 okX9_trim lk_R_law_114 (fun zA zH zE => txX9_trim l1 ((am_kc xs 8).getD (l3 + (1 : Int32)).toNatClampNeg 0) h zA zH zE) rfl (fun _ => rfl) (by decide) rfl (Nat.le_of_ble_eq_true rfl) (by omega) (by omega) (fun r152 h153 => ?_)
      refine am_aload_n dL_law_887 rfl ?_
      refine am_aload_n dL_law_888 rfl ?_
      refine am_iload_n dL_law_889 rfl ?_
      refine am_iconst (v := 1) dL_law_890 (by decide) ?_
      refine am_iadd dL_law_891 ?_
      refine am_kald dL_law_892 (Or.inr (Or.inr rfl)) ?_
      refine am_callV (cvj := am_ci) (mtj := mX10_trim) (dj := 1) (nj := 1) (rcj := 0) (rsj := 0) (rc' := 0) (rs' := 0) (ci := 10) (st' := fun a9 => (am_I a9 :: [am_I r152])) ⟨_, rfl, rfl⟩ [am_I ((am_kc xs 8).getD (l3 + (1 : Int32)).toNatClampNeg 0)] [am_I r152] dL_law_893 okX10_trim lk_R_law_117 (fun zA zH zE => txX10_trim l2 ((am_kc xs 8).getD (l3 + (1 : Int32)).toNatClampNeg 0) h153 zA zH zE) rfl (fun _ => rfl) (by decide) rfl (Nat.le_of_ble_eq_true rfl) (by omega) (by omega) (fun r154 h155 => ?_)
      refine am_icmp_eq (tgt := 1402) dL_law_896 (by decide) (fun c156 => ?_) (fun c156 => ?_)
      · exact am_weak (sxL_law_b1402 (fxL_law_b18 xs n) ih l1 l2 l3 h155) ⟨rfl, ⟨rfl, ⟨rfl, ⟨rfl, trivial⟩⟩⟩⟩ (by first | omega | (unfold am_G; omega)) (by first | omega | (unfold am_G; omega))
      refine am_rcw (rc' := 0) (rs' := 0) ?_ (by omega) (by omega)
      refine am_iconst (v := 0) dL_law_899 (by decide) ?_
      exact am_zret dL_law_900 rfl rfl
    refine am_sw_cons (fun c163 => ?_) (fun c163 => ?_)
    · refine am_rcw (rc' := 0) (rs' := 0) ?_ (by omega) (by omega)
      refine am_aload_n dL_law_901 rfl ?_
      refine am_callV (cvj := am_ci) (mtj := mX9_text) (dj := 602) (nj := 0) (rcj := 0) (rsj := 0) (rc' := 0) (rs' := 0) (ci := 9) (st' := fun a9 => (am_I a9 :: [])) ⟨_, rfl, rfl⟩ [] [] dL_law_902 okX9_text lk_R_law_118 (fun zA zH zE => txX9_text l1 h zA zH zE) rfl (fun _ => rfl) (by decide) rfl (Nat.le_of_ble_eq_true rfl) (by omega) (by omega) (fun r158 h159 => ?_)
      refine am_aload_n dL_law_905 rfl ?_
      refine am_callV (cvj := am_ci) (mtj := mX10_text) (dj := 4) (nj := 0) (rcj := 0) (rsj := 0) (rc' := 0) (rs' := 0) (ci := 10) (st' := fun a9 => (am_I a9 :: [am_I r158])) ⟨_, rfl, rfl⟩ [] [am_I r158] dL_law_906 okX10_text lk_R_law_121 (fun zA zH zE => txX10_text l2 h159 zA zH zE) rfl (fun _ => rfl) (by decide) rfl (Nat.le_of_ble_eq_true rfl) (by omega) (by omega) (fun r160 h161 => ?_)
      refine am_icmp_eq (tgt := 1402) dL_law_909 (by decide) (fun c162 => ?_) (fun c162 => ?_)
      · exact am_weak (sxL_law_b1402 (fxL_law_b18 xs n) ih l1 l2 l3 h161) ⟨rfl, ⟨rfl, ⟨rfl, ⟨rfl, trivial⟩⟩⟩⟩ (by first | omega | (unfold am_G; omega)) (by first | omega | (unfold am_G; omega))
      refine am_rcw (rc' := 0) (rs' := 0) ?_ (by omega) (by omega)
      refine am_iconst (v := 0) dL_law_912 (by decide) ?_
      exact am_zret dL_law_913 rfl rfl
    refine am_sw_cons (fun c169 => ?_) (fun c169 => ?_)
    · refine am_rcw (rc' := 0) (rs' := 0) ?_ (by omega) (by omega)
      refine am_aload_n dL_law_914 rfl ?_
      refine am_aload_n dL_law_915 rfl ?_
      refine am_iload_n dL_law_916 rfl ?_
      refine am_iconst (v := 1) dL_law_917 (by decide) ?_
      refine am_iadd dL_law_918 ?_
      refine am_kald dL_law_919 (Or.inr (Or.inr rfl)) ?_
      refine am_aload_n dL_law_920 rfl ?_
      refine am_iload_n dL_law_921 rfl ?_
      refine am_iconst (v := 2) dL_law_922 (by decide) ?_
      refine am_iadd dL_law_923 ?_
      refine am_kald dL_law_924 (Or.inr (Or.inr rfl)) ?_
      refine am_callV (cvj := am_ci) (mtj := mX9_textTold) (dj := 2) (nj := 2) (rcj := 0) (rsj := 0) (rc' := 0) (rs' := 0) (ci := 9) (st' := fun a9 => (am_I a9 :: [])) ⟨_, rfl, rfl⟩ [am_I ((am_kc xs 8).getD (l3 + (1 : Int32)).toNatClampNeg 0), am_I ((am_kc xs 8).getD (l3 + (2 : Int32)).toNatClampNeg 0)] [] dL_law_925 okX9_textTold lk_R_law_122 (fun zA zH zE => txX9_textTold l1 ((am_kc xs 8).getD (l3 + (1 : Int32)).toNatClampNeg 0) ((am_kc xs 8).getD (l3 + (2 : Int32)).toNatClampNeg 0) h zA zH zE) rfl (fun _ => rfl) (by decide) rfl (Nat.le_of_ble_eq_true rfl) (by omega) (by omega) (fun r164 h165 => ?_)
      refine am_aload_n dL_law_928 rfl ?_
      refine am_aload_n dL_law_929 rfl ?_
      refine am_iload_n dL_law_930 rfl ?_
      refine am_iconst (v := 1) dL_law_931 (by decide) ?_
      refine am_iadd dL_law_932 ?_
      refine am_kald dL_law_933 (Or.inr (Or.inr rfl)) ?_
      refine am_aload_n dL_law_934 rfl ?_
      refine am_iload_n dL_law_935 rfl ?_
      refine am_iconst (v := 2) dL_law_936 (by decide) ?_
      refine am_iadd dL_law_937 ?_
      refine am_kald dL_law_938 (Or.inr (Or.inr rfl)) ?_
      refine am_callV (cvj := am_ci) (mtj := mX10_textTold) (dj := 1) (nj := 2) (rcj := 0) (rsj := 0) (rc' := 0) (rs' := 0) (ci := 10) (st' := fun a9 => (am_I a9 :: [am_I r164])) ⟨_, rfl, rfl⟩ [am_I ((am_kc xs 8).getD (l3 + (1 : Int32)).toNatClampNeg 0), am_I ((am_kc xs 8).getD (l3 + (2 : Int32)).toNatClampNeg 0)] [am_I r164] dL_law_939 okX10_textTold lk_R_law_125 (fun zA zH zE => txX10_textTold l2 ((am_kc xs 8).getD (l3 + (1 : Int32)).toNatClampNeg 0) ((am_kc xs 8).getD (l3 + (2 : Int32)).toNatClampNeg 0) h165 zA zH zE) rfl (fun _ => rfl) (by decide) rfl (Nat.le_of_ble_eq_true rfl) (by omega) (by omega) (fun r166 h167 => ?_)
      refine am_icmp_eq (tgt := 1402) dL_law_942 (by decide) (fun c168 => ?_) (fun c168 => ?_)
      · exact am_weak (sxL_law_b1402 (fxL_law_b18 xs n) ih l1 l2 l3 h167) ⟨rfl, ⟨rfl, ⟨rfl, ⟨rfl, trivial⟩⟩⟩⟩ (by first | omega | (unfold am_G; omega)) (by first | omega | (unfold am_G; omega))
      refine am_rcw (rc' := 0) (rs' := 0) ?_ (by omega) (by omega)
      refine am_iconst (v := 0) dL_law_945 (by decide) ?_
      exact am_zret dL_law_946 rfl rfl
    refine am_sw_cons (fun c175 => ?_) (fun c175 => ?_)
    · refine am_rcw (rc' := 0) (rs' := 0) ?_ (by omega) (by omega)
      refine am_aload_n dL_law_947 rfl ?_
      refine am_aload_n dL_law_948 rfl ?_
      refine am_iload_n dL_law_949 rfl ?_
      refine am_iconst (v := 1) dL_law_950 (by decide) ?_
      refine am_iadd dL_law_951 ?_
      refine am_kald dL_law_952 (Or.inr (Or.inr rfl)) ?_
      refine am_callV (cvj := am_ci) (mtj := mX9_why) (dj := 1) (nj := 1) (rcj := 0) (rsj := 0) (rc' := 0) (rs' := 0) (ci := 9) (st' := fun a9 => (am_I a9 :: [])) ⟨_, rfl, rfl⟩ [am_I ((am_kc xs 8).getD (l3 + (1 : Int32)).toNatClampNeg 0)] [] dL_law_953 okX9_why lk_R_law_126 (fun zA zH zE => txX9_why l1 ((am_kc xs 8).getD (l3 + (1 : Int32)).toNatClampNeg 0) h zA zH zE) rfl (fun _ => rfl) (by decide) rfl (Nat.le_of_ble_eq_true rfl) (by omega) (by omega) (fun r170 h171 => ?_)
      refine am_aload_n dL_law_956 rfl ?_
      refine am_aload_n dL_law_957 rfl ?_
      refine am_iload_n dL_law_958 rfl ?_
      refine am_iconst (v := 1) dL_law_959 (by decide) ?_
      refine am_iadd dL_law_960 ?_
      refine am_kald dL_law_961 (Or.inr (Or.inr rfl)) ?_
      refine am_callV (cvj := am_ci) (mtj := mX10_why) (dj := 1) (nj := 1) (rcj := 0) (rsj := 0) (rc' := 0) (rs' := 0) (ci := 10) (st' := fun a9 => (am_I a9 :: [am_I r170])) ⟨_, rfl, rfl⟩ [am_I ((am_kc xs 8).getD (l3 + (1 : Int32)).toNatClampNeg 0)] [am_I r170] dL_law_962 okX10_why lk_R_law_129 (fun zA zH zE => txX10_why l2 ((am_kc xs 8).getD (l3 + (1 : Int32)).toNatClampNeg 0) h171 zA zH zE) rfl (fun _ => rfl) (by decide) rfl (Nat.le_of_ble_eq_true rfl) (by omega) (by omega) (fun r172 h173 => ?_)
      refine am_icmp_eq (tgt := 1402) dL_law_965 (by decide) (fun c174 => ?_) (fun c174 => ?_)
      · exact am_weak (sxL_law_b1402 (fxL_law_b18 xs n) ih l1 l2 l3 h173) ⟨rfl, ⟨rfl, ⟨rfl, ⟨rfl, trivial⟩⟩⟩⟩ (by first | omega | (unfold am_G; omega)) (by first | omega | (unfold am_G; omega))
      refine am_rcw (rc' := 0) (rs' := 0) ?_ (by omega) (by omega)
      refine am_iconst (v := 0) dL_law_968 (by decide) ?_
      exact am_zret dL_law_969 rfl rfl
    refine am_sw_cons (fun c181 => ?_) (fun c181 => ?_)
    · refine am_rcw (rc' := 0) (rs' := 0) ?_ (by omega) (by omega)
      refine am_aload_n dL_law_970 rfl ?_
      refine am_aload_n dL_law_971 rfl ?_
      refine am_iload_n dL_law_972 rfl ?_
      refine am_iconst (v := 1) dL_law_973 (by decide) ?_
      refine am_iadd dL_law_974 ?_
      refine am_kald dL_law_975 (Or.inr (Or.inr rfl)) ?_
      refine am_aload_n dL_law_976 rfl ?_
      refine am_iload_n dL_law_977 rfl ?_
      refine am_iconst (v := 2) dL_law_978 (by decide) ?_
      refine am_iadd dL_law_979 ?_
      refine am_kald dL_law_980 (Or.inr (Or.inr rfl)) ?_
      refine am_aload_n dL_law_981 rfl ?_
      refine am_iload_n dL_law_982 rfl ?_
      refine am_iconst (v := 3) dL_law_983 (by decide) ?_
      refine am_iadd dL_law_984 ?_
      refine am_kald dL_law_985 (Or.inr (Or.inr rfl)) ?_
      refine am_callV (cvj := am_ci) (mtj := mX9_sheet) (dj := 1) (nj := 3) (rcj := 0) (rsj := 0) (rc' := 0) (rs' := 0) (ci := 9) (st' := fun a9 => (am_I a9 :: [])) ⟨_, rfl, rfl⟩ [am_I ((am_kc xs 8).getD (l3 + (1 : Int32)).toNatClampNeg 0), am_I ((am_kc xs 8).getD (l3 + (2 : Int32)).toNatClampNeg 0), am_I ((am_kc xs 8).getD (l3 + (3 : Int32)).toNatClampNeg 0)] [] dL_law_986 okX9_sheet lk_R_law_130 (fun zA zH zE => txX9_sheet l1 ((am_kc xs 8).getD (l3 + (1 : Int32)).toNatClampNeg 0) ((am_kc xs 8).getD (l3 + (2 : Int32)).toNatClampNeg 0) ((am_kc xs 8).getD (l3 + (3 : Int32)).toNatClampNeg 0) h zA zH zE) rfl (fun _ => rfl) (by decide) rfl (Nat.le_of_ble_eq_true rfl) (by omega) (by omega) (fun r176 h177 => ?_)
      refine am_aload_n dL_law_989 rfl ?_
      refine am_aload_n dL_law_990 rfl ?_
      refine am_iload_n dL_law_991 rfl ?_
      refine am_iconst (v := 1) dL_law_992 (by decide) ?_
      refine am_iadd dL_law_993 ?_
      refine am_kald dL_law_994 (Or.inr (Or.inr rfl)) ?_
      refine am_aload_n dL_law_995 rfl ?_
      refine am_iload_n dL_law_996 rfl ?_
      refine am_iconst (v := 2) dL_law_997 (by decide) ?_
      refine am_iadd dL_law_998 ?_
      refine am_kald dL_law_999 (Or.inr (Or.inr rfl)) ?_
      refine am_aload_n dL_law_1000 rfl ?_
      refine am_iload_n dL_law_1001 rfl ?_
      refine am_iconst (v := 3) dL_law_1002 (by decide) ?_
      refine am_iadd dL_law_1003 ?_
      refine am_kald dL_law_1004 (Or.inr (Or.inr rfl)) ?_
      refine am_callV (cvj := am_ci) (mtj := mX10_sheet) (dj := 2) (nj := 3) (rcj := 0) (rsj := 0) (rc' := 0) (rs' := 0) (ci := 10) (st' := fun a9 => (am_I a9 :: [am_I r176])) ⟨_, rfl, rfl⟩ [am_I ((am_kc xs 8).getD (l3 + (1 : Int32)).toNatClampNeg 0), am_I ((am_kc xs 8).getD (l3 + (2 : Int32)).toNatClampNeg 0), am_I ((am_kc xs 8).getD (l3 + (3 : Int32)).toNatClampNeg 0)] [am_I r176] dL_law_1005 okX10_sheet lk_R_law_133 (fun zA zH zE => txX10_sheet l2 ((am_kc xs 8).getD (l3 + (1 : Int32)).toNatClampNeg 0) ((am_kc xs 8).getD (l3 + (2 : Int32)).toNatClampNeg 0) ((am_kc xs 8).getD (l3 + (3 : Int32)).toNatClampNeg 0) h177 zA zH zE) rfl (fun _ => rfl) (by decide) rfl (Nat.le_of_ble_eq_true rfl) (by omega) (by omega) (fun r178 h179 => ?_)
      refine am_icmp_eq (tgt := 1402) dL_law_1008 (by decide) (fun c180 => ?_) (fun c180 => ?_)
      · exact am_weak (sxL_law_b1402 (fxL_law_b18 xs n) ih l1 l2 l3 h179) ⟨rfl, ⟨rfl, ⟨rfl, ⟨rfl, trivial⟩⟩⟩⟩ (by first | omega | (unfold am_G; omega)) (by first | omega | (unfold am_G; omega))
      refine am_rcw (rc' := 0) (rs' := 0) ?_ (by omega) (by omega)
      refine am_iconst (v := 0) dL_law_1011 (by decide) ?_
      exact am_zret dL_law_1012 rfl rfl
    refine am_sw_cons (fun c187 => ?_) (fun c187 => ?_)
    · refine am_rcw (rc' := 0) (rs' := 0) ?_ (by omega) (by omega)
      refine am_aload_n dL_law_1013 rfl ?_
      refine am_aload_n dL_law_1014 rfl ?_
      refine am_iload_n dL_law_1015 rfl ?_
      refine am_iconst (v := 1) dL_law_1016 (by decide) ?_
      refine am_iadd dL_law_1017 ?_
      refine am_kald dL_law_1018 (Or.inr (Or.inr rfl)) ?_
      refine am_aload_n dL_law_1019 rfl ?_
      refine am_iload_n dL_law_1020 rfl ?_
      refine am_iconst (v := 2) dL_law_1021 (by decide) ?_
      refine am_iadd dL_law_1022 ?_
      refine am_kald dL_law_1023 (Or.inr (Or.inr rfl)) ?_
      refine am_aload_n dL_law_1024 rfl ?_
      refine am_iload_n dL_law_1025 rfl ?_
      refine am_iconst (v := 3) dL_law_1026 (by decide) ?_
      refine am_iadd dL_law_1027 ?_
      refine am_kald dL_law_1028 (Or.inr (Or.inr rfl)) ?_
      refine am_callV (cvj := am_ci) (mtj := mX9_mark) (dj := 2) (nj := 3) (rcj := 0) (rsj := 0) (rc' := 0) (rs' := 0) (ci := 9) (st' := fun a9 => (am_I a9 :: [])) ⟨_, rfl, rfl⟩ [am_I ((am_kc xs 8).getD (l3 + (1 : Int32)).toNatClampNeg 0), am_I ((am_kc xs 8).getD (l3 + (2 : Int32)).toNatClampNeg 0), am_I ((am_kc xs 8).getD (l3 + (3 : Int32)).toNatClampNeg 0)] [] dL_law_1029 okX9_mark lk_R_law_134 (fun zA zH zE => txX9_mark l1 ((am_kc xs 8).getD (l3 + (1 : Int32)).toNatClampNeg 0) ((am_kc xs 8).getD (l3 + (2 : Int32)).toNatClampNeg 0) ((am_kc xs 8).getD (l3 + (3 : Int32)).toNatClampNeg 0) h zA zH zE) rfl (fun _ => rfl) (by decide) rfl (Nat.le_of_ble_eq_true rfl) (by omega) (by omega) (fun r182 h183 => ?_)
      refine am_aload_n dL_law_1032 rfl ?_
      refine am_aload_n dL_law_1033 rfl ?_
      refine am_iload_n dL_law_1034 rfl ?_
      refine am_iconst (v := 1) dL_law_1035 (by decide) ?_
      refine am_iadd dL_law_1036 ?_
      refine am_kald dL_law_1037 (Or.inr (Or.inr rfl)) ?_
      refine am_aload_n dL_law_1038 rfl ?_
      refine am_iload_n dL_law_1039 rfl ?_
      refine am_iconst (v := 2) dL_law_1040 (by decide) ?_
      refine am_iadd dL_law_1041 ?_
      refine am_kald dL_law_1042 (Or.inr (Or.inr rfl)) ?_
      refine am_aload_n dL_law_1043 rfl ?_
      refine am_iload_n dL_law_1044 rfl ?_
      refine am_iconst (v := 3) dL_law_1045 (by decide) ?_
      refine am_iadd dL_law_1046 ?_
      refine am_kald dL_law_1047 (Or.inr (Or.inr rfl)) ?_
      refine am_callV (cvj := am_ci) (mtj := mX10_mark) (dj := 2) (nj := 3) (rcj := 0) (rsj := 0) (rc' := 0) (rs' := 0) (ci := 10) (st' := fun a9 => (am_I a9 :: [am_I r182])) ⟨_, rfl, rfl⟩ [am_I ((am_kc xs 8).getD (l3 + (1 : Int32)).toNatClampNeg 0), am_I ((am_kc xs 8).getD (l3 + (2 : Int32)).toNatClampNeg 0), am_I ((am_kc xs 8).getD (l3 + (3 : Int32)).toNatClampNeg 0)] [am_I r182] dL_law_1048 okX10_mark lk_R_law_137 (fun zA zH zE => txX10_mark l2 ((am_kc xs 8).getD (l3 + (1 : Int32)).toNatClampNeg 0) ((am_kc xs 8).getD (l3 + (2 : Int32)).toNatClampNeg 0) ((am_kc xs 8).getD (l3 + (3 : Int32)).toNatClampNeg 0) h183 zA zH zE) rfl (fun _ => rfl) (by decide) rfl (Nat.le_of_ble_eq_true rfl) (by omega) (by omega) (fun r184 h185 => ?_)
      refine am_icmp_eq (tgt := 1402) dL_law_1051 (by decide) (fun c186 => ?_) (fun c186 => ?_)
      · exact am_weak (sxL_law_b1402 (fxL_law_b18 xs n) ih l1 l2 l3 h185) ⟨rfl, ⟨rfl, ⟨rfl, ⟨rfl, trivial⟩⟩⟩⟩ (by first | omega | (unfold am_G; omega)) (by first | omega | (unfold am_G; omega))
      refine am_rcw (rc' := 0) (rs' := 0) ?_ (by omega) (by omega)
      refine am_iconst (v := 0) dL_law_1054 (by decide) ?_
      exact am_zret dL_law_1055 rfl rfl
    refine am_sw_cons (fun c193 => ?_) (fun c193 => ?_)
    · refine am_rcw (rc' := 0) (rs' := 0) ?_ (by omega) (by omega)
      refine am_aload_n dL_law_1056 rfl ?_
      refine am_aload_n dL_law_1057 rfl ?_
      refine am_iload_n dL_law_1058 rfl ?_
      refine am_iconst (v := 1) dL_law_1059 (by decide) ?_
      refine am_iadd dL_law_1060 ?_
      refine am_kald dL_law_1061 (Or.inr (Or.inr rfl)) ?_
      refine am_callV (cvj := am_ci) (mtj := mX9_pour) (dj := 3) (nj := 1) (rcj := 0) (rsj := 0) (rc' := 0) (rs' := 0) (ci := 9) (st' := fun a9 => (am_I a9 :: [])) ⟨_, rfl, rfl⟩ [am_I ((am_kc xs 8).getD (l3 + (1 : Int32)).toNatClampNeg 0)] [] dL_law_1062 okX9_pour lk_R_law_138 (fun zA zH zE => txX9_pour l1 ((am_kc xs 8).getD (l3 + (1 : Int32)).toNatClampNeg 0) h zA zH zE) rfl (fun _ => rfl) (by decide) rfl (Nat.le_of_ble_eq_true rfl) (by omega) (by omega) (fun r188 h189 => ?_)
      refine am_aload_n dL_law_1065 rfl ?_
      refine am_aload_n dL_law_1066 rfl ?_
      refine am_iload_n dL_law_1067 rfl ?_
      refine am_iconst (v := 1) dL_law_1068 (by decide) ?_
      refine am_iadd dL_law_1069 ?_
      refine am_kald dL_law_1070 (Or.inr (Or.inr rfl)) ?_
      refine am_callV (cvj := am_ci) (mtj := mX10_pour) (dj := 2) (nj := 1) (rcj := 0) (rsj := 0) (rc' := 0) (rs' := 0) (ci := 10) (st' := fun a9 => (am_I a9 :: [am_I r188])) ⟨_, rfl, rfl⟩ [am_I ((am_kc xs 8).getD (l3 + (1 : Int32)).toNatClampNeg 0)] [am_I r188] dL_law_1071 okX10_pour lk_R_law_141 (fun zA zH zE => txX10_pour l2 ((am_kc xs 8).getD (l3 + (1 : Int32)).toNatClampNeg 0) h189 zA zH zE) rfl (fun _ => rfl) (by decide) rfl (Nat.le_of_ble_eq_true rfl) (by omega) (by omega) (fun r190 h191 => ?_)
      refine am_icmp_eq (tgt := 1402) dL_law_1074 (by decide) (fun c192 => ?_) (fun c192 => ?_)
      · exact am_weak (sxL_law_b1402 (fxL_law_b18 xs n) ih l1 l2 l3 h191) ⟨rfl, ⟨rfl, ⟨rfl, ⟨rfl, trivial⟩⟩⟩⟩ (by first | omega | (unfold am_G; omega)) (by first | omega | (unfold am_G; omega))
      refine am_rcw (rc' := 0) (rs' := 0) ?_ (by omega) (by omega)
      refine am_iconst (v := 0) dL_law_1077 (by decide) ?_
      exact am_zret dL_law_1078 rfl rfl
    refine am_sw_cons (fun c199 => ?_) (fun c199 => ?_)
    · refine am_rcw (rc' := 0) (rs' := 0) ?_ (by omega) (by omega)
      refine am_aload_n dL_law_1079 rfl ?_
      refine am_aload_n dL_law_1080 rfl ?_
      refine am_iload_n dL_law_1081 rfl ?_
      refine am_iconst (v := 1) dL_law_1082 (by decide) ?_
      refine am_iadd dL_law_1083 ?_
      refine am_kald dL_law_1084 (Or.inr (Or.inr rfl)) ?_
      refine am_callV (cvj := am_ci) (mtj := mX9_reads) (dj := 3) (nj := 1) (rcj := 0) (rsj := 0) (rc' := 0) (rs' := 0) (ci := 9) (st' := fun a9 => (am_I a9 :: [])) ⟨_, rfl, rfl⟩ [am_I ((am_kc xs 8).getD (l3 + (1 : Int32)).toNatClampNeg 0)] [] dL_law_1085 okX9_reads lk_R_law_142 (fun zA zH zE => txX9_reads l1 ((am_kc xs 8).getD (l3 + (1 : Int32)).toNatClampNeg 0) h zA zH zE) rfl (fun _ => rfl) (by decide) rfl (Nat.le_of_ble_eq_true rfl) (by omega) (by omega) (fun r194 h195 => ?_)
      refine am_aload_n dL_law_1088 rfl ?_
      refine am_aload_n dL_law_1089 rfl ?_
      refine am_iload_n dL_law_1090 rfl ?_
      refine am_iconst (v := 1) dL_law_1091 (by decide) ?_
      refine am_iadd dL_law_1092 ?_
      refine am_kald dL_law_1093 (Or.inr (Or.inr rfl)) ?_
      refine am_callV (cvj := am_ci) (mtj := mX10_reads) (dj := 2) (nj := 1) (rcj := 0) (rsj := 0) (rc' := 0) (rs' := 0) (ci := 10) (st' := fun a9 => (am_I a9 :: [am_I r194])) ⟨_, rfl, rfl⟩ [am_I ((am_kc xs 8).getD (l3 + (1 : Int32)).toNatClampNeg 0)] [am_I r194] dL_law_1094 okX10_reads lk_R_law_145 (fun zA zH zE => txX10_reads l2 ((am_kc xs 8).getD (l3 + (1 : Int32)).toNatClampNeg 0) h195 zA zH zE) rfl (fun _ => rfl) (by decide) rfl (Nat.le_of_ble_eq_true rfl) (by omega) (by omega) (fun r196 h197 => ?_)
      refine am_icmp_eq (tgt := 1402) dL_law_1097 (by decide) (fun c198 => ?_) (fun c198 => ?_)
      · exact am_weak (sxL_law_b1402 (fxL_law_b18 xs n) ih l1 l2 l3 h197) ⟨rfl, ⟨rfl, ⟨rfl, ⟨rfl, trivial⟩⟩⟩⟩ (by first | omega | (unfold am_G; omega)) (by first | omega | (unfold am_G; omega))
      refine am_rcw (rc' := 0) (rs' := 0) ?_ (by omega) (by omega)
      refine am_iconst (v := 0) dL_law_1100 (by decide) ?_
      exact am_zret dL_law_1101 rfl rfl
    refine am_sw_cons (fun c205 => ?_) (fun c205 => ?_)
    · refine am_rcw (rc' := 0) (rs' := 0) ?_ (by omega) (by omega)
      refine am_aload_n dL_law_1102 rfl ?_
      refine am_aload_n dL_law_1103 rfl ?_
      refine am_iload_n dL_law_1104 rfl ?_
      refine am_iconst (v := 1) dL_law_1105 (by decide) ?_
      refine am_iadd dL_law_1106 ?_
      refine am_kald dL_law_1107 (Or.inr (Or.inr rfl)) ?_
      refine am_aload_n dL_law_1108 rfl ?_
      refine am_iload_n dL_law_1109 rfl ?_
      refine am_iconst (v := 2) dL_law_1110 (by decide) ?_
      refine am_iadd dL_law_1111 ?_
      refine am_kald dL_law_1112 (Or.inr (Or.inr rfl)) ?_
      refine am_aload_n dL_law_1113 rfl ?_
      refine am_iload_n dL_law_1114 rfl ?_
      refine am_iconst (v := 3) dL_law_1115 (by decide) ?_
      refine am_iadd dL_law_1116 ?_
      refine am_kald dL_law_1117 (Or.inr (Or.inr rfl)) ?_
      refine am_aload_n dL_law_1118 rfl ?_
      refine am_iload_n dL_law_1119 rfl ?_
      refine am_iconst (v := 4) dL_law_1120 (by decide) ?_
      refine am_iadd dL_law_1121 ?_
      refine am_kald dL_law_1122 (Or.inr (Or.inr rfl)) ?_
      refine am_aload_n dL_law_1123 rfl ?_
      refine am_iload_n dL_law_1124 rfl ?_
      refine am_iconst (v := 5) dL_law_1125 (by decide) ?_
      refine am_iadd dL_law_1126 ?_
      refine am_kald dL_law_1127 (Or.inr (Or.inr rfl)) ?_
      refine am_callV (cvj := am_ci) (mtj := mX9_copy) (dj := 2) (nj := 5) (rcj := 0) (rsj := 0) (rc' := 0) (rs' := 0) (ci := 9) (st' := fun a9 => (am_I a9 :: [])) ⟨_, rfl, rfl⟩ [am_I ((am_kc xs 8).getD (l3 + (1 : Int32)).toNatClampNeg 0), am_I ((am_kc xs 8).getD (l3 + (2 : Int32)).toNatClampNeg 0), am_I ((am_kc xs 8).getD (l3 + (3 : Int32)).toNatClampNeg 0), am_I ((am_kc xs 8).getD (l3 + (4 : Int32)).toNatClampNeg 0), am_I ((am_kc xs 8).getD (l3 + (5 : Int32)).toNatClampNeg 0)] [] dL_law_1128 okX9_copy lk_R_law_146 (fun zA zH zE => txX9_copy l1 ((am_kc xs 8).getD (l3 + (1 : Int32)).toNatClampNeg 0) ((am_kc xs 8).getD (l3 + (2 : Int32)).toNatClampNeg 0) ((am_kc xs 8).getD (l3 + (3 : Int32)).toNatClampNeg 0) ((am_kc xs 8).getD (l3 + (4 : Int32)).toNatClampNeg 0) ((am_kc xs 8).getD (l3 + (5 : Int32)).toNatClampNeg 0) h zA zH zE) rfl (fun _ => rfl) (by decide) rfl (Nat.le_of_ble_eq_true rfl) (by omega) (by omega) (fun r200 h201 => ?_)
      refine am_aload_n dL_law_1131 rfl ?_
      refine am_aload_n dL_law_1132 rfl ?_
      refine am_iload_n dL_law_1133 rfl ?_
      refine am_iconst (v := 1) dL_law_1134 (by decide) ?_
      refine am_iadd dL_law_1135 ?_
      refine am_kald dL_law_1136 (Or.inr (Or.inr rfl)) ?_
      refine am_aload_n dL_law_1137 rfl ?_
      refine am_iload_n dL_law_1138 rfl ?_
      refine am_iconst (v := 2) dL_law_1139 (by decide) ?_
      refine am_iadd dL_law_1140 ?_
      refine am_kald dL_law_1141 (Or.inr (Or.inr rfl)) ?_
      refine am_aload_n dL_law_1142 rfl ?_
      refine am_iload_n dL_law_1143 rfl ?_
      refine am_iconst (v := 3) dL_law_1144 (by decide) ?_
      refine am_iadd dL_law_1145 ?_
      refine am_kald dL_law_1146 (Or.inr (Or.inr rfl)) ?_
      refine am_aload_n dL_law_1147 rfl ?_
      refine am_iload_n dL_law_1148 rfl ?_
      refine am_iconst (v := 4) dL_law_1149 (by decide) ?_
      refine am_iadd dL_law_1150 ?_
      refine am_kald dL_law_1151 (Or.inr (Or.inr rfl)) ?_
      refine am_aload_n dL_law_1152 rfl ?_
      refine am_iload_n dL_law_1153 rfl ?_
      refine am_iconst (v := 5) dL_law_1154 (by decide) ?_
      refine am_iadd dL_law_1155 ?_
      refine am_kald dL_law_1156 (Or.inr (Or.inr rfl)) ?_
      refine am_callV (cvj := am_ci) (mtj := mX10_copy) (dj := 2) (nj := 5) (rcj := 0) (rsj := 0) (rc' := 0) (rs' := 0) (ci := 10) (st' := fun a9 => (am_I a9 :: [am_I r200])) ⟨_, rfl, rfl⟩ [am_I ((am_kc xs 8).getD (l3 + (1 : Int32)).toNatClampNeg 0), am_I ((am_kc xs 8).getD (l3 + (2 : Int32)).toNatClampNeg 0), am_I ((am_kc xs 8).getD (l3 + (3 : Int32)).toNatClampNeg 0), am_I ((am_kc xs 8).getD (l3 + (4 : Int32)).toNatClampNeg 0), am_I ((am_kc xs 8).getD (l3 + (5 : Int32)).toNatClampNeg 0)] [am_I r200] dL_law_1157 okX10_copy lk_R_law_150 (fun zA zH zE => txX10_copy l2 ((am_kc xs 8).getD (l3 + (1 : Int32)).toNatClampNeg 0) ((am_kc xs 8).getD (l3 + (2 : Int32)).toNatClampNeg 0) ((am_kc xs 8).getD (l3 + (3 : Int32)).toNatClampNeg 0) ((am_kc xs 8).getD (l3 + (4 : Int32)).toNatClampNeg 0) ((am_kc xs 8).getD (l3 + (5 : Int32)).toNatClampNeg 0) h201 zA zH zE) rfl (fun _ => rfl) (by decide) rfl (Nat.le_of_ble_eq_true rfl) (by omega) (by omega) (fun r202 h203 => ?_)
      refine am_icmp_eq (tgt := 1402) dL_law_1160 (by decide) (fun c204 => ?_) (fun c204 => ?_)
      · exact am_weak (sxL_law_b1402 (fxL_law_b18 xs n) ih l1 l2 l3 h203) ⟨rfl, ⟨rfl, ⟨rfl, ⟨rfl, trivial⟩⟩⟩⟩ (by first | omega | (unfold am_G; omega)) (by first | omega | (unfold am_G; omega))
      refine am_rcw (rc' := 0) (rs' := 0) ?_ (by omega) (by omega)
      refine am_iconst (v := 0) dL_law_1163 (by decide) ?_
      exact am_zret dL_law_1164 rfl rfl
    refine am_sw_cons (fun c211 => ?_) (fun c211 => ?_)
    · refine am_rcw (rc' := 0) (rs' := 0) ?_ (by omega) (by omega)
      refine am_aload_n dL_law_1165 rfl ?_
      refine am_aload_n dL_law_1166 rfl ?_
      refine am_iload_n dL_law_1167 rfl ?_
      refine am_iconst (v := 1) dL_law_1168 (by decide) ?_
      refine am_iadd dL_law_1169 ?_
      refine am_kald dL_law_1170 (Or.inr (Or.inr rfl)) ?_
      refine am_aload_n dL_law_1171 rfl ?_
      refine am_iload_n dL_law_1172 rfl ?_
      refine am_iconst (v := 2) dL_law_1173 (by decide) ?_
      refine am_iadd dL_law_1174 ?_
      refine am_kald dL_law_1175 (Or.inr (Or.inr rfl)) ?_
      refine am_aload_n dL_law_1176 rfl ?_
      refine am_iload_n dL_law_1177 rfl ?_
      refine am_iconst (v := 3) dL_law_1178 (by decide) ?_
      refine am_iadd dL_law_1179 ?_
      refine am_kald dL_law_1180 (Or.inr (Or.inr rfl)) ?_
      refine am_callV (cvj := am_ci) (mtj := mX9_lay) (dj := 3) (nj := 3) (rcj := 0) (rsj := 0) (rc' := 0) (rs' := 0) (ci := 9) (st' := fun a9 => (am_I a9 :: [])) ⟨_, rfl, rfl⟩ [am_I ((am_kc xs 8).getD (l3 + (1 : Int32)).toNatClampNeg 0), am_I ((am_kc xs 8).getD (l3 + (2 : Int32)).toNatClampNeg 0), am_I ((am_kc xs 8).getD (l3 + (3 : Int32)).toNatClampNeg 0)] [] dL_law_1181 okX9_lay lk_R_law_151 (fun zA zH zE => txX9_lay l1 ((am_kc xs 8).getD (l3 + (1 : Int32)).toNatClampNeg 0) ((am_kc xs 8).getD (l3 + (2 : Int32)).toNatClampNeg 0) ((am_kc xs 8).getD (l3 + (3 : Int32)).toNatClampNeg 0) h zA zH zE) rfl (fun _ => rfl) (by decide) rfl (Nat.le_of_ble_eq_true rfl) (by omega) (by omega) (fun r206 h207 => ?_)
      refine am_aload_n dL_law_1184 rfl ?_
      refine am_aload_n dL_law_1185 rfl ?_
      refine am_iload_n dL_law_1186 rfl ?_
      refine am_iconst (v := 1) dL_law_1187 (by decide) ?_
      refine am_iadd dL_law_1188 ?_
      refine am_kald dL_law_1189 (Or.inr (Or.inr rfl)) ?_
      refine am_aload_n dL_law_1190 rfl ?_
      refine am_iload_n dL_law_1191 rfl ?_
      refine am_iconst (v := 2) dL_law_1192 (by decide) ?_
      refine am_iadd dL_law_1193 ?_
      refine am_kald dL_law_1194 (Or.inr (Or.inr rfl)) ?_
      refine am_aload_n dL_law_1195 rfl ?_
      refine am_iload_n dL_law_1196 rfl ?_
      refine am_iconst (v := 3) dL_law_1197 (by decide) ?_
      refine am_iadd dL_law_1198 ?_
      refine am_kald dL_law_1199 (Or.inr (Or.inr rfl)) ?_
      refine am_callV (cvj := am_ci) (mtj := mX10_lay) (dj := 2) (nj := 3) (rcj := 0) (rsj := 0) (rc' := 0) (rs' := 0) (ci := 10) (st' := fun a9 => (am_I a9 :: [am_I r206])) ⟨_, rfl, rfl⟩ [am_I ((am_kc xs 8).getD (l3 + (1 : Int32)).toNatClampNeg 0), am_I ((am_kc xs 8).getD (l3 + (2 : Int32)).toNatClampNeg 0), am_I ((am_kc xs 8).getD (l3 + (3 : Int32)).toNatClampNeg 0)] [am_I r206] dL_law_1200 okX10_lay lk_R_law_154 (fun zA zH zE => txX10_lay l2 ((am_kc xs 8).getD (l3 + (1 : Int32)).toNatClampNeg 0) ((am_kc xs 8).getD (l3 + (2 : Int32)).toNatClampNeg 0) ((am_kc xs 8).getD (l3 + (3 : Int32)).toNatClampNeg 0) h207 zA zH zE) rfl (fun _ => rfl) (by decide) rfl (Nat.le_of_ble_eq_true rfl) (by omega) (by omega) (fun r208 h209 => ?_)
      refine am_icmp_eq (tgt := 1402) dL_law_1203 (by decide) (fun c210 => ?_) (fun c210 => ?_)
      · exact am_weak (sxL_law_b1402 (fxL_law_b18 xs n) ih l1 l2 l3 h209) ⟨rfl, ⟨rfl, ⟨rfl, ⟨rfl, trivial⟩⟩⟩⟩ (by first | omega | (unfold am_G; omega)) (by first | omega | (unfold am_G; omega))
      refine am_rcw (rc' := 0) (rs' := 0) ?_ (by omega) (by omega)
      refine am_iconst (v := 0) dL_law_1206 (by decide) ?_
      exact am_zret dL_law_1207 rfl rfl
    refine am_sw_cons (fun c217 => ?_) (fun c217 => ?_)
    · refine am_rcw (rc' := 0) (rs' := 0) ?_ (by omega) (by omega)
      refine am_aload_n dL_law_1208 rfl ?_
      refine am_aload_n dL_law_1209 rfl ?_
      refine am_iload_n dL_law_1210 rfl ?_
      refine am_iconst (v := 1) dL_law_1211 (by decide) ?_
      refine am_iadd dL_law_1212 ?_
      refine am_kald dL_law_1213 (Or.inr (Or.inr rfl)) ?_
      refine am_aload_n dL_law_1214 rfl ?_
      refine am_iload_n dL_law_1215 rfl ?_
      refine am_iconst (v := 2) dL_law_1216 (by decide) ?_
      refine am_iadd dL_law_1217 ?_
      refine am_kald dL_law_1218 (Or.inr (Or.inr rfl)) ?_
      refine am_callV (cvj := am_ci) (mtj := mX9_ask) (dj := 3) (nj := 2) (rcj := 0) (rsj := 0) (rc' := 0) (rs' := 0) (ci := 9) (st' := fun a9 => (am_I a9 :: [])) ⟨_, rfl, rfl⟩ [am_I ((am_kc xs 8).getD (l3 + (1 : Int32)).toNatClampNeg 0), am_I ((am_kc xs 8).getD (l3 + (2 : Int32)).toNatClampNeg 0)] [] dL_law_1219 okX9_ask lk_R_law_155 (fun zA zH zE => txX9_ask l1 ((am_kc xs 8).getD (l3 + (1 : Int32)).toNatClampNeg 0) ((am_kc xs 8).getD (l3 + (2 : Int32)).toNatClampNeg 0) h zA zH zE) rfl (fun _ => rfl) (by decide) rfl (Nat.le_of_ble_eq_true rfl) (by omega) (by omega) (fun r212 h213 => ?_)
      refine am_aload_n dL_law_1222 rfl ?_
      refine am_aload_n dL_law_1223 rfl ?_
      refine am_iload_n dL_law_1224 rfl ?_
      refine am_iconst (v := 1) dL_law_1225 (by decide) ?_
      refine am_iadd dL_law_1226 ?_
      refine am_kald dL_law_1227 (Or.inr (Or.inr rfl)) ?_
      refine am_aload_n dL_law_1228 rfl ?_
      refine am_iload_n dL_law_1229 rfl ?_
      refine am_iconst (v := 2) dL_law_1230 (by decide) ?_
      refine am_iadd dL_law_1231 ?_
      refine am_kald dL_law_1232 (Or.inr (Or.inr rfl)) ?_
      refine am_callV (cvj := am_ci) (mtj := mX10_ask) (dj := 2) (nj := 2) (rcj := 0) (rsj := 0) (rc' := 0) (rs' := 0) (ci := 10) (st' := fun a9 => (am_I a9 :: [am_I r212])) ⟨_, rfl, rfl⟩ [am_I ((am_kc xs 8).getD (l3 + (1 : Int32)).toNatClampNeg 0), am_I ((am_kc xs 8).getD (l3 + (2 : Int32)).toNatClampNeg 0)] [am_I r212] dL_law_1233 okX10_ask lk_R_law_158 (fun zA zH zE => txX10_ask l2 ((am_kc xs 8).getD (l3 + (1 : Int32)).toNatClampNeg 0) ((am_kc xs 8).getD (l3 + (2 : Int32)).toNatClampNeg 0) h213 zA zH zE) rfl (fun _ => rfl) (by decide) rfl (Nat.le_of_ble_eq_true rfl) (by omega) (by omega) (fun r214 h215 => ?_)
      refine am_icmp_eq (tgt := 1402) dL_law_1236 (by decide) (fun c216 => ?_) (fun c216 => ?_)
      · exact am_weak (sxL_law_b1402 (fxL_law_b18 xs n) ih l1 l2 l3 h215) ⟨rfl, ⟨rfl, ⟨rfl, ⟨rfl, trivial⟩⟩⟩⟩ (by first | omega | (unfold am_G; omega)) (by first | omega | (unfold am_G; omega))
      refine am_rcw (rc' := 0) (rs' := 0) ?_ (by omega) (by omega)
      refine am_iconst (v := 0) dL_law_1239 (by decide) ?_
      exact am_zret dL_law_1240 rfl rfl
    refine am_sw_cons (fun c223 => ?_) (fun c223 => ?_)
    · refine am_rcw (rc' := 0) (rs' := 0) ?_ (by omega) (by omega)
      refine am_aload_n dL_law_1241 rfl ?_
      refine am_aload_n dL_law_1242 rfl ?_
      refine am_iload_n dL_law_1243 rfl ?_
      refine am_iconst (v := 1) dL_law_1244 (by decide) ?_
      refine am_iadd dL_law_1245 ?_
      refine am_kald dL_law_1246 (Or.inr (Or.inr rfl)) ?_
      refine am_aload_n dL_law_1247 rfl ?_
      refine am_iload_n dL_law_1248 rfl ?_
      refine am_iconst (v := 2) dL_law_1249 (by decide) ?_
      refine am_iadd dL_law_1250 ?_
      refine am_kald dL_law_1251 (Or.inr (Or.inr rfl)) ?_
      refine am_callV (cvj := am_ci) (mtj := mX9_item) (dj := 3) (nj := 2) (rcj := 0) (rsj := 0) (rc' := 0) (rs' := 0) (ci := 9) (st' := fun a9 => (am_I a9 :: [])) ⟨_, rfl, rfl⟩ [am_I ((am_kc xs 8).getD (l3 + (1 : Int32)).toNatClampNeg 0), am_I ((am_kc xs 8).getD (l3 + (2 : Int32)).toNatClampNeg 0)] [] dL_law_1252 okX9_item lk_R_law_159 (fun zA zH zE => txX9_item l1 ((am_kc xs 8).getD (l3 + (1 : Int32)).toNatClampNeg 0) ((am_kc xs 8).getD (l3 + (2 : Int32)).toNatClampNeg 0) h zA zH zE) rfl (fun _ => rfl) (by decide) rfl (Nat.le_of_ble_eq_true rfl) (by omega) (by omega) (fun r218 h219 => ?_)
      refine am_aload_n dL_law_1255 rfl ?_
      refine am_aload_n dL_law_1256 rfl ?_
      refine am_iload_n dL_law_1257 rfl ?_
      refine am_iconst (v := 1) dL_law_1258 (by decide) ?_
      refine am_iadd dL_law_1259 ?_
      refine am_kald dL_law_1260 (Or.inr (Or.inr rfl)) ?_
      refine am_aload_n dL_law_1261 rfl ?_
      refine am_iload_n dL_law_1262 rfl ?_
      refine am_iconst (v := 2) dL_law_1263 (by decide) ?_
      refine am_iadd dL_law_1264 ?_
      refine am_kald dL_law_1265 (Or.inr (Or.inr rfl)) ?_
      refine am_callV (cvj := am_ci) (mtj := mX10_item) (dj := 2) (nj := 2) (rcj := 0) (rsj := 0) (rc' := 0) (rs' := 0) (ci := 10) (st' := fun a9 => (am_I a9 :: [am_I r218])) ⟨_, rfl, rfl⟩ [am_I ((am_kc xs 8).getD (l3 + (1 : Int32)).toNatClampNeg 0), am_I ((am_kc xs 8).getD (l3 + (2 : Int32)).toNatClampNeg 0)] [am_I r218] dL_law_1266 okX10_item lk_R_law_162 (fun zA zH zE => txX10_item l2 ((am_kc xs 8).getD (l3 + (1 : Int32)).toNatClampNeg 0) ((am_kc xs 8).getD (l3 + (2 : Int32)).toNatClampNeg 0) h219 zA zH zE) rfl (fun _ => rfl) (by decide) rfl (Nat.le_of_ble_eq_true rfl) (by omega) (by omega) (fun r220 h221 => ?_)
      refine am_icmp_eq (tgt := 1402) dL_law_1269 (by decide) (fun c222 => ?_) (fun c222 => ?_)
      · exact am_weak (sxL_law_b1402 (fxL_law_b18 xs n) ih l1 l2 l3 h221) ⟨rfl, ⟨rfl, ⟨rfl, ⟨rfl, trivial⟩⟩⟩⟩ (by first | omega | (unfold am_G; omega)) (by first | omega | (unfold am_G; omega))
      refine am_rcw (rc' := 0) (rs' := 0) ?_ (by omega) (by omega)
      refine am_iconst (v := 0) dL_law_1272 (by decide) ?_
      exact am_zret dL_law_1273 rfl rfl
    refine am_sw_cons (fun c229 => ?_) (fun c229 => ?_)
    · refine am_rcw (rc' := 0) (rs' := 0) ?_ (by omega) (by omega)
      refine am_aload_n dL_law_1274 rfl ?_
      refine am_aload_n dL_law_1275 rfl ?_
      refine am_iload_n dL_law_1276 rfl ?_
      refine am_iconst (v := 1) dL_law_1277 (by decide) ?_
      refine am_iadd dL_law_1278 ?_
      refine am_kald dL_law_1279 (Or.inr (Or.inr rfl)) ?_
      refine am_aload_n dL_law_1280 rfl ?_
      refine am_iload_n dL_law_1281 rfl ?_
      refine am_iconst (v := 2) dL_law_1282 (by decide) ?_
      refine am_iadd dL_law_1283 ?_
      refine am_kald dL_law_1284 (Or.inr (Or.inr rfl)) ?_
      refine am_callV (cvj := am_ci) (mtj := mX9_rest) (dj := 2) (nj := 2) (rcj := 0) (rsj := 0) (rc' := 0) (rs' := 0) (ci := 9) (st' := fun a9 => (am_I a9 :: [])) ⟨_, rfl, rfl⟩ [am_I ((am_kc xs 8).getD (l3 + (1 : Int32)).toNatClampNeg 0), am_I ((am_kc xs 8).getD (l3 + (2 : Int32)).toNatClampNeg 0)] [] dL_law_1285 okX9_rest lk_R_law_163 (fun zA zH zE => txX9_rest l1 ((am_kc xs 8).getD (l3 + (1 : Int32)).toNatClampNeg 0) ((am_kc xs 8).getD (l3 + (2 : Int32)).toNatClampNeg 0) h zA zH zE) rfl (fun _ => rfl) (by decide) rfl (Nat.le_of_ble_eq_true rfl) (by omega) (by omega) (fun r224 h225 => ?_)
      refine am_aload_n dL_law_1288 rfl ?_
      refine am_aload_n dL_law_1289 rfl ?_
      refine am_iload_n dL_law_1290 rfl ?_
      refine am_iconst (v := 1) dL_law_1291 (by decide) ?_
      refine am_iadd dL_law_1292 ?_
      refine am_kald dL_law_1293 (Or.inr (Or.inr rfl)) ?_
      refine am_aload_n dL_law_1294 rfl ?_
      refine am_iload_n dL_law_1295 rfl ?_
      refine am_iconst (v := 2) dL_law_1296 (by decide) ?_
      refine am_iadd dL_law_1297 ?_
      refine am_kald dL_law_1298 (Or.inr (Or.inr rfl)) ?_
      refine am_callV (cvj := am_ci) (mtj := mX10_rest) (dj := 2) (nj := 2) (rcj := 0) (rsj := 0) (rc' := 0) (rs' := 0) (ci := 10) (st' := fun a9 => (am_I a9 :: [am_I r224])) ⟨_, rfl, rfl⟩ [am_I ((am_kc xs 8).getD (l3 + (1 : Int32)).toNatClampNeg 0), am_I ((am_kc xs 8).getD (l3 + (2 : Int32)).toNatClampNeg 0)] [am_I r224] dL_law_1299 okX10_rest lk_R_law_166 (fun zA zH zE => txX10_rest l2 ((am_kc xs 8).getD (l3 + (1 : Int32)).toNatClampNeg 0) ((am_kc xs 8).getD (l3 + (2 : Int32)).toNatClampNeg 0) h225 zA zH zE) rfl (fun _ => rfl) (by decide) rfl (Nat.le_of_ble_eq_true rfl) (by omega) (by omega) (fun r226 h227 => ?_)
      refine am_icmp_eq (tgt := 1402) dL_law_1302 (by decide) (fun c228 => ?_) (fun c228 => ?_)
      · exact am_weak (sxL_law_b1402 (fxL_law_b18 xs n) ih l1 l2 l3 h227) ⟨rfl, ⟨rfl, ⟨rfl, ⟨rfl, trivial⟩⟩⟩⟩ (by first | omega | (unfold am_G; omega)) (by first | omega | (unfold am_G; omega))
      refine am_rcw (rc' := 0) (rs' := 0) ?_ (by omega) (by omega)
      refine am_iconst (v := 0) dL_law_1305 (by decide) ?_
      exact am_zret dL_law_1306 rfl rfl
    refine am_sw_cons (fun c235 => ?_) (fun c235 => ?_)
    · refine am_rcw (rc' := 0) (rs' := 0) ?_ (by omega) (by omega)
      refine am_aload_n dL_law_1307 rfl ?_
      refine am_aload_n dL_law_1308 rfl ?_
      refine am_iload_n dL_law_1309 rfl ?_
      refine am_iconst (v := 1) dL_law_1310 (by decide) ?_
      refine am_iadd dL_law_1311 ?_
      refine am_kald dL_law_1312 (Or.inr (Or.inr rfl)) ?_
      refine am_callV (cvj := am_ci) (mtj := mX9_tell) (dj := 0) (nj := 1) (rcj := 0) (rsj := 0) (rc' := 0) (rs' := 0) (ci := 9) (st' := fun a9 => (am_I a9 :: [])) ⟨_, rfl, rfl⟩ [am_I ((am_kc xs 8).getD (l3 + (1 : Int32)).toNatClampNeg 0)] [] dL_law_1313 okX9_tell lk_R_law_167 (fun zA zH zE => txX9_tell l1 ((am_kc xs 8).getD (l3 + (1 : Int32)).toNatClampNeg 0) h zA zH zE) rfl (fun _ => rfl) (by decide) rfl (Nat.le_of_ble_eq_true rfl) (by omega) (by omega) (fun r230 h231 => ?_)
      refine am_aload_n dL_law_1316 rfl ?_
      refine am_aload_n dL_law_1317 rfl ?_
      refine am_iload_n dL_law_1318 rfl ?_
      refine am_iconst (v := 1) dL_law_1319 (by decide) ?_
      refine am_iadd dL_law_1320 ?_
      refine am_kald dL_law_1321 (Or.inr (Or.inr rfl)) ?_
      refine am_callV (cvj := am_ci) (mtj := mX10_tell) (dj := 0) (nj := 1) (rcj := 0) (rsj := 0) (rc' := 0) (rs' := 0) (ci := 10) (st' := fun a9 => (am_I a9 :: [am_I r230])) ⟨_, rfl, rfl⟩ [am_I ((am_kc xs 8).getD (l3 + (1 : Int32)).toNatClampNeg 0)] [am_I r230] dL_law_1322 okX10_tell lk_R_law_170 (fun zA zH zE => txX10_tell l2 ((am_kc xs 8).getD (l3 + (1 : Int32)).toNatClampNeg 0) h231 zA zH zE) rfl (fun _ => rfl) (by decide) rfl (Nat.le_of_ble_eq_true rfl) (by omega) (by omega) (fun r232 h233 => ?_)
      refine am_icmp_eq (tgt := 1402) dL_law_1325 (by decide) (fun c234 => ?_) (fun c234 => ?_)
      · exact am_weak (sxL_law_b1402 (fxL_law_b18 xs n) ih l1 l2 l3 h233) ⟨rfl, ⟨rfl, ⟨rfl, ⟨rfl, trivial⟩⟩⟩⟩ (by first | omega | (unfold am_G; omega)) (by first | omega | (unfold am_G; omega))
      refine am_rcw (rc' := 0) (rs' := 0) ?_ (by omega) (by omega)
      refine am_iconst (v := 0) dL_law_1328 (by decide) ?_
      exact am_zret dL_law_1329 rfl rfl
    refine am_sw_cons (fun c241 => ?_) (fun c241 => ?_)
    · refine am_rcw (rc' := 0) (rs' := 0) ?_ (by omega) (by omega)
      refine am_aload_n dL_law_1330 rfl ?_
      refine am_aload_n dL_law_1331 rfl ?_
      refine am_iload_n dL_law_1332 rfl ?_
      refine am_iconst (v := 1) dL_law_1333 (by decide) ?_
      refine am_iadd dL_law_1334 ?_
      refine am_kald dL_law_1335 (Or.inr (Or.inr rfl)) ?_
      refine am_callV (cvj := am_ci) (mtj := mX9_check) (dj := 5) (nj := 1) (rcj := 0) (rsj := 0) (rc' := 0) (rs' := 0) (ci := 9) (st' := fun a9 => (am_I a9 :: [])) ⟨_, rfl, rfl⟩ [am_I ((am_kc xs 8).getD (l3 + (1 : Int32)).toNatClampNeg 0)] [] dL_law_1336 okX9_check lk_R_law_171 (fun zA zH zE => txX9_check l1 ((am_kc xs 8).getD (l3 + (1 : Int32)).toNatClampNeg 0) h zA zH zE) rfl (fun _ => rfl) (by decide) rfl (Nat.le_of_ble_eq_true rfl) (by omega) (by omega) (fun r236 h237 => ?_)
      refine am_aload_n dL_law_1339 rfl ?_
      refine am_aload_n dL_law_1340 rfl ?_
      refine am_iload_n dL_law_1341 rfl ?_
      refine am_iconst (v := 1) dL_law_1342 (by decide) ?_
      refine am_iadd dL_law_1343 ?_
      refine am_kald dL_law_1344 (Or.inr (Or.inr rfl)) ?_
      refine am_callV (cvj := am_ci) (mtj := mX10_check) (dj := 4) (nj := 1) (rcj := 0) (rsj := 0) (rc' := 0) (rs' := 0) (ci := 10) (st' := fun a9 => (am_I a9 :: [am_I r236])) ⟨_, rfl, rfl⟩ [am_I ((am_kc xs 8).getD (l3 + (1 : Int32)).toNatClampNeg 0)] [am_I r236] dL_law_1345 okX10_check lk_R_law_174 (fun zA zH zE => txX10_check l2 ((am_kc xs 8).getD (l3 + (1 : Int32)).toNatClampNeg 0) h237 zA zH zE) rfl (fun _ => rfl) (by decide) rfl (Nat.le_of_ble_eq_true rfl) (by omega) (by omega) (fun r238 h239 => ?_)
      refine am_icmp_eq (tgt := 1402) dL_law_1348 (by decide) (fun c240 => ?_) (fun c240 => ?_)
      · exact am_weak (sxL_law_b1402 (fxL_law_b18 xs n) ih l1 l2 l3 h239) ⟨rfl, ⟨rfl, ⟨rfl, ⟨rfl, trivial⟩⟩⟩⟩ (by first | omega | (unfold am_G; omega)) (by first | omega | (unfold am_G; omega))
      refine am_rcw (rc' := 0) (rs' := 0) ?_ (by omega) (by omega)
      refine am_iconst (v := 0) dL_law_1351 (by decide) ?_
      exact am_zret dL_law_1352 rfl rfl
    refine am_sw_cons (fun c247 => ?_) (fun c247 => ?_)
    · refine am_rcw (rc' := 0) (rs' := 0) ?_ (by omega) (by omega)
      refine am_aload_n dL_law_1353 rfl ?_
      refine am_callV (cvj := am_ci) (mtj := mX9_keep) (dj := 3) (nj := 0) (rcj := 0) (rsj := 0) (rc' := 0) (rs' := 0) (ci := 9) (st' := fun a9 => (am_I a9 :: [])) ⟨_, rfl, rfl⟩ [] [] dL_law_1354 okX9_keep lk_R_law_175 (fun zA zH zE => txX9_keep l1 h zA zH zE) rfl (fun _ => rfl) (by decide) rfl (Nat.le_of_ble_eq_true rfl) (by omega) (by omega) (fun r242 h243 => ?_)
      refine am_aload_n dL_law_1357 rfl ?_
      refine am_callV (cvj := am_ci) (mtj := mX10_keep) (dj := 1) (nj := 0) (rcj := 0) (rsj := 0) (rc' := 0) (rs' := 0) (ci := 10) (st' := fun a9 => (am_I a9 :: [am_I r242])) ⟨_, rfl, rfl⟩ [] [am_I r242] dL_law_1358 okX10_keep lk_R_law_178 (fun zA zH zE => txX10_keep l2 h243 zA zH zE) rfl (fun _ => rfl) (by decide) rfl (Nat.le_of_ble_eq_true rfl) (by omega) (by omega) (fun r244 h245 => ?_)
      refine am_icmp_eq (tgt := 1402) dL_law_1361 (by decide) (fun c246 => ?_) (fun c246 => ?_)
      · exact am_weak (sxL_law_b1402 (fxL_law_b18 xs n) ih l1 l2 l3 h245) ⟨rfl, ⟨rfl, ⟨rfl, ⟨rfl, trivial⟩⟩⟩⟩ (by first | omega | (unfold am_G; omega)) (by first | omega | (unfold am_G; omega))
      refine am_rcw (rc' := 0) (rs' := 0) ?_ (by omega) (by omega)
      refine am_iconst (v := 0) dL_law_1364 (by decide) ?_
      exact am_zret dL_law_1365 rfl rfl
    refine am_sw_cons (fun c253 => ?_) (fun c253 => ?_)
    · refine am_rcw (rc' := 0) (rs' := 0) ?_ (by omega) (by omega)
      refine am_aload_n dL_law_1366 rfl ?_
      refine am_callV (cvj := am_ci) (mtj := mX9_back) (dj := 3) (nj := 0) (rcj := 0) (rsj := 0) (rc' := 0) (rs' := 0) (ci := 9) (st' := fun a9 => (am_I a9 :: [])) ⟨_, rfl, rfl⟩ [] [] dL_law_1367 okX9_back lk_R_law_179 (fun zA zH zE => txX9_back l1 h zA zH zE) rfl (fun _ => rfl) (by decide) rfl (Nat.le_of_ble_eq_true rfl) (by omega) (by omega) (fun r248 h249 => ?_)
      refine am_aload_n dL_law_1370 rfl ?_
      refine am_callV (cvj := am_ci) (mtj := mX10_back) (dj := 1) (nj := 0) (rcj := 0) (rsj := 0) (rc' := 0) (rs' := 0) (ci := 10) (st' := fun a9 => (am_I a9 :: [am_I r248])) ⟨_, rfl, rfl⟩ [] [am_I r248] dL_law_1371 okX10_back lk_R_law_182 (fun zA zH zE => txX10_back l2 h249 zA zH zE) rfl (fun _ => rfl) (by decide) rfl (Nat.le_of_ble_eq_true rfl) (by omega) (by omega) (fun r250 h251 => ?_)
      refine am_icmp_eq (tgt := 1402) dL_law_1374 (by decide) (fun c252 => ?_) (fun c252 => ?_)
      · exact am_weak (sxL_law_b1402 (fxL_law_b18 xs n) ih l1 l2 l3 h251) ⟨rfl, ⟨rfl, ⟨rfl, ⟨rfl, trivial⟩⟩⟩⟩ (by first | omega | (unfold am_G; omega)) (by first | omega | (unfold am_G; omega))
      refine am_rcw (rc' := 0) (rs' := 0) ?_ (by omega) (by omega)
      refine am_iconst (v := 0) dL_law_1377 (by decide) ?_
      exact am_zret dL_law_1378 rfl rfl
    refine am_sw_cons (fun c259 => ?_) (fun c259 => ?_)
    · refine am_rcw (rc' := 0) (rs' := 0) ?_ (by omega) (by omega)
      refine am_aload_n dL_law_1379 rfl ?_
      refine am_aload_n dL_law_1380 rfl ?_
      refine am_iload_n dL_law_1381 rfl ?_
      refine am_iconst (v := 1) dL_law_1382 (by decide) ?_
      refine am_iadd dL_law_1383 ?_
      refine am_kald dL_law_1384 (Or.inr (Or.inr rfl)) ?_
      refine am_callV (cvj := am_ci) (mtj := mX9_count) (dj := 1) (nj := 1) (rcj := 0) (rsj := 0) (rc' := 0) (rs' := 0) (ci := 9) (st' := fun a9 => (am_I a9 :: [])) ⟨_, rfl, rfl⟩ [am_I ((am_kc xs 8).getD (l3 + (1 : Int32)).toNatClampNeg 0)] [] dL_law_1385 okX9_count lk_R_law_183 (fun zA zH zE => txX9_count l1 ((am_kc xs 8).getD (l3 + (1 : Int32)).toNatClampNeg 0) h zA zH zE) rfl (fun _ => rfl) (by decide) rfl (Nat.le_of_ble_eq_true rfl) (by omega) (by omega) (fun r254 h255 => ?_)
      refine am_aload_n dL_law_1388 rfl ?_
      refine am_aload_n dL_law_1389 rfl ?_
      refine am_iload_n dL_law_1390 rfl ?_
      refine am_iconst (v := 1) dL_law_1391 (by decide) ?_
      refine am_iadd dL_law_1392 ?_
      refine am_kald dL_law_1393 (Or.inr (Or.inr rfl)) ?_
      refine am_callV (cvj := am_ci) (mtj := mX10_count) (dj := 2) (nj := 1) (rcj := 0) (rsj := 0) (rc' := 0) (rs' := 0) (ci := 10) (st' := fun a9 => (am_I a9 :: [am_I r254])) ⟨_, rfl, rfl⟩ [am_I ((am_kc xs 8).getD (l3 + (1 : Int32)).toNatClampNeg 0)] [am_I r254] dL_law_1394 okX10_count lk_R_law_186 (fun zA zH zE => txX10_count l2 ((am_kc xs 8).getD (l3 + (1 : Int32)).toNatClampNeg 0) h255 zA zH zE) rfl (fun _ => rfl) (by decide) rfl (Nat.le_of_ble_eq_true rfl) (by omega) (by omega) (fun r256 h257 => ?_)
      refine am_icmp_eq (tgt := 1402) dL_law_1397 (by decide) (fun c258 => ?_) (fun c258 => ?_)
      · exact am_weak (sxL_law_b1402 (fxL_law_b18 xs n) ih l1 l2 l3 h257) ⟨rfl, ⟨rfl, ⟨rfl, ⟨rfl, trivial⟩⟩⟩⟩ (by first | omega | (unfold am_G; omega)) (by first | omega | (unfold am_G; omega))
      refine am_rcw (rc' := 0) (rs' := 0) ?_ (by omega) (by omega)
      refine am_iconst (v := 0) dL_law_1400 (by decide) ?_
      exact am_zret dL_law_1401 rfl rfl
    refine am_sw_nil ?_
    exact am_weak (sxL_law_b1402 (fxL_law_b18 xs n) ih l1 l2 l3 h) ⟨rfl, ⟨rfl, ⟨rfl, ⟨rfl, trivial⟩⟩⟩⟩ (by first | omega | (unfold am_G; omega)) (by first | omega | (unfold am_G; omega))
def fxL_law (xs : List Int32) (h : am_H) : Option (Int32 × am_H) := am_lt (am_nw h (.inr 9)) (fun h1 => am_gd (some h.1).isSome (am_bd (fxX9_init (some h.1) h1) (fun _ h2 => am_lt (some h.1) (fun q3 => am_lt (am_nw h2 (.inr 10)) (fun h4 => am_gd (some h2.1).isSome (am_bd (fxX10_init (some h2.1) h4) (fun _ h5 => am_lt (some h2.1) (fun q6 => am_lt (0 : Int32) (fun x7 => fxL_law_b18 xs am_F q3 q6 x7 h5)))))))))
set_option maxRecDepth 100000 in
theorem sxL_law {xs : List Int32} (h : am_H) : am_Sm xs am_ci mL_law 603 280 12374 0 [some (am_K 8), none, none, none] [] h (fxL_law xs h) := by
  unfold fxL_law
  refine am_new (ci := 9) (rc' := 279) (rs' := 12362) dL_law_0 ⟨_, rfl, wd19, wd20, wd1⟩ (by omega) (by show _ + 12 ≤ _; omega) (fun h1 => ?_)
  refine am_dup dL_law_3 ?_
  refine am_callI (cvj := am_cu) (mtj := mX9_init) (dj := 3) (nj := 0) (rcj := 254) (rsj := 6020) (rc' := 25) (rs' := 6342) (st' := fun _ => [am_R (some h.1)]) [] [am_R (some h.1)] dL_law_4 okX9_init lk_R_law_9 (fun zA zH zE => txX9_init (some h.1) h1 zA zH zE) rfl (fun _ => rfl) (by decide) rfl (Nat.le_of_ble_eq_true rfl) (by omega) (by omega) (fun _ h2 => ?_)
  refine am_astore_n (LL := fun y9 => [some (am_K 8), some (am_R y9), none, none]) dL_law_7 (by decide) (fun _ => rfl) (fun q3 => ?_)
  refine am_new (ci := 10) (rc' := 24) (rs' := 6306) dL_law_8 ⟨_, rfl, wd936, wd937, wd11⟩ (by omega) (by show _ + 36 ≤ _; omega) (fun h4 => ?_)
  refine am_dup dL_law_11 ?_
  refine am_callI (cvj := am_cu) (mtj := mX10_init) (dj := 1) (nj := 0) (rcj := 24) (rsj := 6306) (rc' := 0) (rs' := 0) (st' := fun _ => [am_R (some h2.1)]) [] [am_R (some h2.1)] dL_law_12 okX10_init lk_R_law_12 (fun zA zH zE => txX10_init (some h2.1) h4 zA zH zE) rfl (fun _ => rfl) (by decide) rfl (Nat.le_of_ble_eq_true rfl) (by omega) (by omega) (fun _ h5 => ?_)
  refine am_astore_n (LL := fun y9 => [some (am_K 8), some (am_R q3), some (am_R y9), none]) dL_law_15 (by decide) (fun _ => rfl) (fun q6 => ?_)
  refine am_iconst (v := 0) dL_law_16 (by decide) ?_
  refine am_istore_n (LL := fun y9 => [some (am_K 8), some (am_R q3), some (am_R q6), some (am_I y9)]) dL_law_17 (by decide) (fun _ => rfl) (fun x7 => ?_)
  exact am_weak (sxL_law_b18 am_F q3 q6 x7 h5) ⟨rfl, ⟨rfl, ⟨rfl, ⟨rfl, trivial⟩⟩⟩⟩ (by first | omega | (unfold am_G; omega)) (by first | omega | (unfold am_G; omega))
