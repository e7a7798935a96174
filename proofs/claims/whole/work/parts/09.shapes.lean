def shC : List Kd := [.inl (11, [some (some 1), some (some 3), some (some 9), some (some 14), some (some 45), some (some 47), some (some 52), some (some 58)]), .inl (10, [some (some 2), none, none, none]), .inr (.inl (.int, 160)), .inl (7, [none, none, some (some 4), some (some 5), some (some 6), some (some 7), some (some 8)]), .inr (.inl (.int, 6)), .inr (.inl (.int, 6)), .inr (.inl (.int, 4)), .inr (.inl (.int, 4)), .inr (.inl (.int, 5)), .inl (2, [some (some 10)]), .inl (8, [some (some 11), none, some (some 12), some (some 13), none]), .inr (.inl (.int, 400)), .inr (.inl (.int, 100)), .inr (.inl (.int, 5)), .inl (6, [none, none, some (some 15), some (some 16), some (some 17), some (some 18), some (some 36), some (some 39), none, none, none, some (some 42), some (some 43), some (some 44)]), .inr (.inl (.int, 4)), .inr (.inl (.int, 4)), .inr (.inl (.int, 24)), .inl (3, [some (some 19), none, none]), .inr (.inr [some 20, some 24, some 28, some 32]), .inl (8, [some (some 21), none, some (some 22), some (some 23), none]), .inr (.inl (.int, 400)), .inr (.inl (.int, 100)), .inr (.inl (.int, 5)), .inl (8, [some (some 25), none, some (some 26), some (some 27), none]), .inr (.inl (.int, 400)), .inr (.inl (.int, 100)), .inr (.inl (.int, 5)), .inl (8, [some (some 29), none, some (some 30), some (some 31), none]), .inr (.inl (.int, 400)), .inr (.inl (.int, 100)), .inr (.inl (.int, 5)), .inl (8, [some (some 33), none, some (some 34), some (some 35), none]), .inr (.inl (.int, 400)), .inr (.inl (.int, 100)), .inr (.inl (.int, 5)), .inl (9, [none, none, none, none, some (some 37), some (some 38)]), .inr (.inl (.int, 6)), .inr (.inl (.int, 6)), .inl (9, [none, none, none, none, some (some 40), some (some 41)]), .inr (.inl (.int, 6)), .inr (.inl (.int, 6)), .inr (.inl (.int, 20)), .inr (.inl (.int, 20)), .inr (.inl (.int, 6)), .inl (5, [none, none, none, some (some 46)]), .inr (.inl (.int, 720)), .inl (1, [none, none, none, some (some 48), some (some 49), some (some 50), some (some 51), none, none]), .inr (.inl (.int, 6)), .inr (.inl (.int, 6)), .inr (.inl (.int, 6)), .inr (.inl (.int, 24)), .inl (4, [none, none, none, some (some 53), some (some 54), some (some 55), some (some 56), some (some 57)]), .inr (.inl (.int, 5)), .inr (.inl (.int, 243)), .inr (.inl (.boolean, 243)), .inr (.inl (.int, 243)), .inr (.inl (.int, 243)), .inl (0, [some (some 59)]), .inr (.inl (.boolean, 360))]
def shR (t : Nat) : List Kd := [.inl (12, [none, some (some 1), some (some 2), some (some 3), some (some 4), some (some t), none, none, none, none, none, none, none, none, none, some (some 1010), some (some 1011), none, some (some 5), some (some 6), some (some 7), some (some 8), some (some 9), none, none, none, some (some 10), some (some 11), some (some 12), some (some 13), some (some 14), none, none, none, none, none, none, some (some 15), some (some 16), some (some 17), some (some 18), some (some 19), some (some 20), some (some 21), some (some 22), some (some 23), some (some 24), some (some 25), none, none, none, none, none, none, some (some 26), some (some 27), none, none, none, none]), .inr (.inl (.byte, 160)), .inr (.inl (.byte, 640)), .inr (.inl (.int, 4)), .inr (.inl (.int, 128)), .inr (.inl (.int, 6)), .inr (.inl (.int, 6)), .inr (.inl (.int, 6)), .inr (.inl (.int, 4)), .inr (.inl (.int, 4)), .inr (.inl (.int, 7)), .inr (.inl (.int, 6)), .inr (.inl (.int, 4)), .inr (.inl (.int, 4)), .inr (.inl (.int, 24)), .inr (.inl (.int, 6)), .inr (.inl (.int, 6)), .inr (.inl (.int, 6)), .inr (.inl (.int, 6)), .inr (.inl (.int, 4096)), .inr (.inl (.int, 4096)), .inr (.inl (.int, 6)), .inr (.inl (.boolean, 4096)), .inr (.inl (.boolean, 4096)), .inr (.inl (.int, 20)), .inr (.inl (.int, 20)), .inr (.inl (.int, 6)), .inr (.inl (.int, 6))]
theorem hC_0_0 : okC shC 0 11 = true := rfl
theorem hC_0_1 : okR shC 0 11 0 = true := rfl
theorem hC_0_2 : tgt shC 0 0 = some 1 := rfl
theorem hC_0_3 : okR shC 0 11 1 = true := rfl
theorem hC_0_4 : tgt shC 0 1 = some 3 := rfl
theorem hC_0_5 : okR shC 0 11 2 = true := rfl
theorem hC_0_6 : tgt shC 0 2 = some 9 := rfl
theorem hC_0_7 : okR shC 0 11 3 = true := rfl
theorem hC_0_8 : tgt shC 0 3 = some 14 := rfl
theorem hC_0_9 : okR shC 0 11 4 = true := rfl
theorem hC_0_10 : tgt shC 0 4 = some 45 := rfl
theorem hC_0_11 : okR shC 0 11 5 = true := rfl
theorem hC_0_12 : tgt shC 0 5 = some 47 := rfl
theorem hC_0_13 : okR shC 0 11 6 = true := rfl
theorem hC_0_14 : tgt shC 0 6 = some 52 := rfl
theorem hC_0_15 : okR shC 0 11 7 = true := rfl
theorem hC_0_16 : tgt shC 0 7 = some 58 := rfl
theorem hC_1_0 : okC shC 1 10 = true := rfl
theorem hC_1_1 : okR shC 1 10 0 = true := rfl
theorem hC_1_2 : tgt shC 1 0 = some 2 := rfl
theorem hC_1_3 : okP shC 1 10 1 = true := rfl
theorem hC_1_4 : okP shC 1 10 2 = true := rfl
theorem hC_1_5 : okP shC 1 10 3 = true := rfl
theorem hC_2_0 : aln shC .int 2 = 160 := rfl
theorem hC_3_0 : okC shC 3 7 = true := rfl
theorem hC_3_1 : okP shC 3 7 0 = true := rfl
theorem hC_3_2 : okP shC 3 7 1 = true := rfl
theorem hC_3_3 : okR shC 3 7 2 = true := rfl
theorem hC_3_4 : tgt shC 3 2 = some 4 := rfl
theorem hC_3_5 : okR shC 3 7 3 = true := rfl
theorem hC_3_6 : tgt shC 3 3 = some 5 := rfl
theorem hC_3_7 : okR shC 3 7 4 = true := rfl
theorem hC_3_8 : tgt shC 3 4 = some 6 := rfl
theorem hC_3_9 : okR shC 3 7 5 = true := rfl
theorem hC_3_10 : tgt shC 3 5 = some 7 := rfl
theorem hC_3_11 : okR shC 3 7 6 = true := rfl
theorem hC_3_12 : tgt shC 3 6 = some 8 := rfl
theorem hC_4_0 : aln shC .int 4 = 6 := rfl
theorem hC_5_0 : aln shC .int 5 = 6 := rfl
theorem hC_6_0 : aln shC .int 6 = 4 := rfl
theorem hC_7_0 : aln shC .int 7 = 4 := rfl
theorem hC_8_0 : aln shC .int 8 = 5 := rfl
theorem hC_9_0 : okC shC 9 2 = true := rfl
theorem hC_9_1 : okR shC 9 2 0 = true := rfl
theorem hC_9_2 : tgt shC 9 0 = some 10 := rfl
theorem hC_10_0 : okC shC 10 8 = true := rfl
theorem hC_10_1 : okR shC 10 8 0 = true := rfl
theorem hC_10_2 : tgt shC 10 0 = some 11 := rfl
theorem hC_10_3 : okP shC 10 8 1 = true := rfl
theorem hC_10_4 : okR shC 10 8 2 = true := rfl
theorem hC_10_5 : tgt shC 10 2 = some 12 := rfl
theorem hC_10_6 : okR shC 10 8 3 = true := rfl
theorem hC_10_7 : tgt shC 10 3 = some 13 := rfl
theorem hC_10_8 : okP shC 10 8 4 = true := rfl
theorem hC_11_0 : aln shC .int 11 = 400 := rfl
theorem hC_12_0 : aln shC .int 12 = 100 := rfl
theorem hC_13_0 : aln shC .int 13 = 5 := rfl
theorem hC_14_0 : okC shC 14 6 = true := rfl
theorem hC_14_1 : okP shC 14 6 0 = true := rfl
theorem hC_14_2 : okP shC 14 6 1 = true := rfl
theorem hC_14_3 : okR shC 14 6 2 = true := rfl
theorem hC_14_4 : tgt shC 14 2 = some 15 := rfl
theorem hC_14_5 : okR shC 14 6 3 = true := rfl
theorem hC_14_6 : tgt shC 14 3 = some 16 := rfl
theorem hC_14_7 : okR shC 14 6 4 = true := rfl
theorem hC_14_8 : tgt shC 14 4 = some 17 := rfl
theorem hC_14_9 : okR shC 14 6 5 = true := rfl
theorem hC_14_10 : tgt shC 14 5 = some 18 := rfl
theorem hC_14_11 : okR shC 14 6 6 = true := rfl
theorem hC_14_12 : tgt shC 14 6 = some 36 := rfl
theorem hC_14_13 : okR shC 14 6 7 = true := rfl
theorem hC_14_14 : tgt shC 14 7 = some 39 := rfl
theorem hC_14_15 : okP shC 14 6 8 = true := rfl
theorem hC_14_16 : okP shC 14 6 9 = true := rfl
theorem hC_14_17 : okP shC 14 6 10 = true := rfl
theorem hC_14_18 : okR shC 14 6 11 = true := rfl
theorem hC_14_19 : tgt shC 14 11 = some 42 := rfl
theorem hC_14_20 : okR shC 14 6 12 = true := rfl
theorem hC_14_21 : tgt shC 14 12 = some 43 := rfl
theorem hC_14_22 : okR shC 14 6 13 = true := rfl
theorem hC_14_23 : tgt shC 14 13 = some 44 := rfl
theorem hC_15_0 : aln shC .int 15 = 4 := rfl
theorem hC_16_0 : aln shC .int 16 = 4 := rfl
theorem hC_17_0 : aln shC .int 17 = 24 := rfl
theorem hC_18_0 : okC shC 18 3 = true := rfl
theorem hC_18_1 : okR shC 18 3 0 = true := rfl
theorem hC_18_2 : tgt shC 18 0 = some 19 := rfl
theorem hC_18_3 : okP shC 18 3 1 = true := rfl
theorem hC_18_4 : okP shC 18 3 2 = true := rfl
theorem hC_19_0 : rln shC 19 = 4 := rfl
theorem hC_20_0 : okC shC 20 8 = true := rfl
theorem hC_20_1 : okR shC 20 8 0 = true := rfl
theorem hC_20_2 : tgt shC 20 0 = some 21 := rfl
theorem hC_20_3 : okP shC 20 8 1 = true := rfl
theorem hC_20_4 : okR shC 20 8 2 = true := rfl
theorem hC_20_5 : tgt shC 20 2 = some 22 := rfl
theorem hC_20_6 : okR shC 20 8 3 = true := rfl
theorem hC_20_7 : tgt shC 20 3 = some 23 := rfl
theorem hC_20_8 : okP shC 20 8 4 = true := rfl
theorem hC_21_0 : aln shC .int 21 = 400 := rfl
theorem hC_22_0 : aln shC .int 22 = 100 := rfl
theorem hC_23_0 : aln shC .int 23 = 5 := rfl
theorem hC_24_0 : okC shC 24 8 = true := rfl
theorem hC_24_1 : okR shC 24 8 0 = true := rfl
theorem hC_24_2 : tgt shC 24 0 = some 25 := rfl
theorem hC_24_3 : okP shC 24 8 1 = true := rfl
theorem hC_24_4 : okR shC 24 8 2 = true := rfl
theorem hC_24_5 : tgt shC 24 2 = some 26 := rfl
theorem hC_24_6 : okR shC 24 8 3 = true := rfl
theorem hC_24_7 : tgt shC 24 3 = some 27 := rfl
theorem hC_24_8 : okP shC 24 8 4 = true := rfl
theorem hC_25_0 : aln shC .int 25 = 400 := rfl
theorem hC_26_0 : aln shC .int 26 = 100 := rfl
theorem hC_27_0 : aln shC .int 27 = 5 := rfl
theorem hC_28_0 : okC shC 28 8 = true := rfl
theorem hC_28_1 : okR shC 28 8 0 = true := rfl
theorem hC_28_2 : tgt shC 28 0 = some 29 := rfl
theorem hC_28_3 : okP shC 28 8 1 = true := rfl
theorem hC_28_4 : okR shC 28 8 2 = true := rfl
theorem hC_28_5 : tgt shC 28 2 = some 30 := rfl
theorem hC_28_6 : okR shC 28 8 3 = true := rfl
theorem hC_28_7 : tgt shC 28 3 = some 31 := rfl
theorem hC_28_8 : okP shC 28 8 4 = true := rfl
theorem hC_29_0 : aln shC .int 29 = 400 := rfl
theorem hC_30_0 : aln shC .int 30 = 100 := rfl
theorem hC_31_0 : aln shC .int 31 = 5 := rfl
theorem hC_32_0 : okC shC 32 8 = true := rfl
theorem hC_32_1 : okR shC 32 8 0 = true := rfl
theorem hC_32_2 : tgt shC 32 0 = some 33 := rfl
theorem hC_32_3 : okP shC 32 8 1 = true := rfl
theorem hC_32_4 : okR shC 32 8 2 = true := rfl
theorem hC_32_5 : tgt shC 32 2 = some 34 := rfl
theorem hC_32_6 : okR shC 32 8 3 = true := rfl
theorem hC_32_7 : tgt shC 32 3 = some 35 := rfl
theorem hC_32_8 : okP shC 32 8 4 = true := rfl
theorem hC_33_0 : aln shC .int 33 = 400 := rfl
theorem hC_34_0 : aln shC .int 34 = 100 := rfl
theorem hC_35_0 : aln shC .int 35 = 5 := rfl
theorem hC_36_0 : okC shC 36 9 = true := rfl
theorem hC_36_1 : okP shC 36 9 0 = true := rfl
theorem hC_36_2 : okP shC 36 9 1 = true := rfl
theorem hC_36_3 : okP shC 36 9 2 = true := rfl
theorem hC_36_4 : okP shC 36 9 3 = true := rfl
theorem hC_36_5 : okR shC 36 9 4 = true := rfl
theorem hC_36_6 : tgt shC 36 4 = some 37 := rfl
theorem hC_36_7 : okR shC 36 9 5 = true := rfl
theorem hC_36_8 : tgt shC 36 5 = some 38 := rfl
theorem hC_37_0 : aln shC .int 37 = 6 := rfl
theorem hC_38_0 : aln shC .int 38 = 6 := rfl
theorem hC_39_0 : okC shC 39 9 = true := rfl
theorem hC_39_1 : okP shC 39 9 0 = true := rfl
theorem hC_39_2 : okP shC 39 9 1 = true := rfl
theorem hC_39_3 : okP shC 39 9 2 = true := rfl
theorem hC_39_4 : okP shC 39 9 3 = true := rfl
theorem hC_39_5 : okR shC 39 9 4 = true := rfl
theorem hC_39_6 : tgt shC 39 4 = some 40 := rfl
theorem hC_39_7 : okR shC 39 9 5 = true := rfl
theorem hC_39_8 : tgt shC 39 5 = some 41 := rfl
theorem hC_40_0 : aln shC .int 40 = 6 := rfl
theorem hC_41_0 : aln shC .int 41 = 6 := rfl
theorem hC_42_0 : aln shC .int 42 = 20 := rfl
theorem hC_43_0 : aln shC .int 43 = 20 := rfl
theorem hC_44_0 : aln shC .int 44 = 6 := rfl
theorem hC_45_0 : okC shC 45 5 = true := rfl
theorem hC_45_1 : okP shC 45 5 0 = true := rfl
theorem hC_45_2 : okP shC 45 5 1 = true := rfl
theorem hC_45_3 : okP shC 45 5 2 = true := rfl
theorem hC_45_4 : okR shC 45 5 3 = true := rfl
theorem hC_45_5 : tgt shC 45 3 = some 46 := rfl
theorem hC_46_0 : aln shC .int 46 = 720 := rfl
theorem hC_47_0 : okC shC 47 1 = true := rfl
theorem hC_47_1 : okP shC 47 1 0 = true := rfl
theorem hC_47_2 : okP shC 47 1 1 = true := rfl
theorem hC_47_3 : okP shC 47 1 2 = true := rfl
theorem hC_47_4 : okR shC 47 1 3 = true := rfl
theorem hC_47_5 : tgt shC 47 3 = some 48 := rfl
theorem hC_47_6 : okR shC 47 1 4 = true := rfl
theorem hC_47_7 : tgt shC 47 4 = some 49 := rfl
theorem hC_47_8 : okR shC 47 1 5 = true := rfl
theorem hC_47_9 : tgt shC 47 5 = some 50 := rfl
theorem hC_47_10 : okR shC 47 1 6 = true := rfl
theorem hC_47_11 : tgt shC 47 6 = some 51 := rfl
theorem hC_47_12 : okP shC 47 1 7 = true := rfl
theorem hC_47_13 : okP shC 47 1 8 = true := rfl
theorem hC_48_0 : aln shC .int 48 = 6 := rfl
theorem hC_49_0 : aln shC .int 49 = 6 := rfl
theorem hC_50_0 : aln shC .int 50 = 6 := rfl
theorem hC_51_0 : aln shC .int 51 = 24 := rfl
theorem hC_52_0 : okC shC 52 4 = true := rfl
theorem hC_52_1 : okP shC 52 4 0 = true := rfl
theorem hC_52_2 : okP shC 52 4 1 = true := rfl
theorem hC_52_3 : okP shC 52 4 2 = true := rfl
theorem hC_52_4 : okR shC 52 4 3 = true := rfl
theorem hC_52_5 : tgt shC 52 3 = some 53 := rfl
theorem hC_52_6 : okR shC 52 4 4 = true := rfl
theorem hC_52_7 : tgt shC 52 4 = some 54 := rfl
theorem hC_52_8 : okR shC 52 4 5 = true := rfl
theorem hC_52_9 : tgt shC 52 5 = some 55 := rfl
theorem hC_52_10 : okR shC 52 4 6 = true := rfl
theorem hC_52_11 : tgt shC 52 6 = some 56 := rfl
theorem hC_52_12 : okR shC 52 4 7 = true := rfl
theorem hC_52_13 : tgt shC 52 7 = some 57 := rfl
theorem hC_53_0 : aln shC .int 53 = 5 := rfl
theorem hC_54_0 : aln shC .int 54 = 243 := rfl
theorem hC_55_0 : alnB shC 55 = 243 := rfl
theorem hC_56_0 : aln shC .int 56 = 243 := rfl
theorem hC_57_0 : aln shC .int 57 = 243 := rfl
theorem hC_58_0 : okC shC 58 0 = true := rfl
theorem hC_58_1 : okR shC 58 0 0 = true := rfl
theorem hC_58_2 : tgt shC 58 0 = some 59 := rfl
theorem hC_59_0 : alnB shC 59 = 360 := rfl
theorem hR_0_0 (t : Nat) : okC (shR t) 0 12 = true := rfl
theorem hR_0_1 (t : Nat) : okP (shR t) 0 12 0 = true := rfl
theorem hR_0_2 (t : Nat) : okR (shR t) 0 12 1 = true := rfl
theorem hR_0_3 (t : Nat) : tgt (shR t) 0 1 = some 1 := rfl
theorem hR_0_4 (t : Nat) : okR (shR t) 0 12 2 = true := rfl
theorem hR_0_5 (t : Nat) : tgt (shR t) 0 2 = some 2 := rfl
theorem hR_0_6 (t : Nat) : okR (shR t) 0 12 3 = true := rfl
theorem hR_0_7 (t : Nat) : tgt (shR t) 0 3 = some 3 := rfl
theorem hR_0_8 (t : Nat) : okR (shR t) 0 12 4 = true := rfl
theorem hR_0_9 (t : Nat) : tgt (shR t) 0 4 = some 4 := rfl
theorem hR_0_10 (t : Nat) : okR (shR t) 0 12 5 = true := rfl
theorem hR_0_11 (t : Nat) : tgt (shR t) 0 5 = some t := rfl
theorem hR_0_12 (t : Nat) : okP (shR t) 0 12 6 = true := rfl
theorem hR_0_13 (t : Nat) : okP (shR t) 0 12 7 = true := rfl
theorem hR_0_14 (t : Nat) : okP (shR t) 0 12 8 = true := rfl
theorem hR_0_15 (t : Nat) : okP (shR t) 0 12 9 = true := rfl
theorem hR_0_16 (t : Nat) : okP (shR t) 0 12 10 = true := rfl
theorem hR_0_17 (t : Nat) : okP (shR t) 0 12 11 = true := rfl
theorem hR_0_18 (t : Nat) : okP (shR t) 0 12 12 = true := rfl
theorem hR_0_19 (t : Nat) : okP (shR t) 0 12 13 = true := rfl
theorem hR_0_20 (t : Nat) : okP (shR t) 0 12 14 = true := rfl
theorem hR_0_21 (t : Nat) : okR (shR t) 0 12 15 = true := rfl
theorem hR_0_22 (t : Nat) : tgt (shR t) 0 15 = some 1010 := rfl
theorem hR_0_23 (t : Nat) : okR (shR t) 0 12 16 = true := rfl
theorem hR_0_24 (t : Nat) : tgt (shR t) 0 16 = some 1011 := rfl
theorem hR_0_25 (t : Nat) : okP (shR t) 0 12 17 = true := rfl
theorem hR_0_26 (t : Nat) : okR (shR t) 0 12 18 = true := rfl
theorem hR_0_27 (t : Nat) : tgt (shR t) 0 18 = some 5 := rfl
theorem hR_0_28 (t : Nat) : okR (shR t) 0 12 19 = true := rfl
theorem hR_0_29 (t : Nat) : tgt (shR t) 0 19 = some 6 := rfl
theorem hR_0_30 (t : Nat) : okR (shR t) 0 12 20 = true := rfl
theorem hR_0_31 (t : Nat) : tgt (shR t) 0 20 = some 7 := rfl
theorem hR_0_32 (t : Nat) : okR (shR t) 0 12 21 = true := rfl
theorem hR_0_33 (t : Nat) : tgt (shR t) 0 21 = some 8 := rfl
theorem hR_0_34 (t : Nat) : okR (shR t) 0 12 22 = true := rfl
theorem hR_0_35 (t : Nat) : tgt (shR t) 0 22 = some 9 := rfl
theorem hR_0_36 (t : Nat) : okP (shR t) 0 12 23 = true := rfl
theorem hR_0_37 (t : Nat) : okP (shR t) 0 12 24 = true := rfl
theorem hR_0_38 (t : Nat) : okP (shR t) 0 12 25 = true := rfl
theorem hR_0_39 (t : Nat) : okR (shR t) 0 12 26 = true := rfl
theorem hR_0_40 (t : Nat) : tgt (shR t) 0 26 = some 10 := rfl
theorem hR_0_41 (t : Nat) : okR (shR t) 0 12 27 = true := rfl
theorem hR_0_42 (t : Nat) : tgt (shR t) 0 27 = some 11 := rfl
theorem hR_0_43 (t : Nat) : okR (shR t) 0 12 28 = true := rfl
theorem hR_0_44 (t : Nat) : tgt (shR t) 0 28 = some 12 := rfl
theorem hR_0_45 (t : Nat) : okR (shR t) 0 12 29 = true := rfl
theorem hR_0_46 (t : Nat) : tgt (shR t) 0 29 = some 13 := rfl
theorem hR_0_47 (t : Nat) : okR (shR t) 0 12 30 = true := rfl
theorem hR_0_48 (t : Nat) : tgt (shR t) 0 30 = some 14 := rfl
theorem hR_0_49 (t : Nat) : okP (shR t) 0 12 31 = true := rfl
theorem hR_0_50 (t : Nat) : okP (shR t) 0 12 32 = true := rfl
theorem hR_0_51 (t : Nat) : okP (shR t) 0 12 33 = true := rfl
theorem hR_0_52 (t : Nat) : okP (shR t) 0 12 34 = true := rfl
theorem hR_0_53 (t : Nat) : okP (shR t) 0 12 35 = true := rfl
theorem hR_0_54 (t : Nat) : okP (shR t) 0 12 36 = true := rfl
theorem hR_0_55 (t : Nat) : okR (shR t) 0 12 37 = true := rfl
theorem hR_0_56 (t : Nat) : tgt (shR t) 0 37 = some 15 := rfl
theorem hR_0_57 (t : Nat) : okR (shR t) 0 12 38 = true := rfl
theorem hR_0_58 (t : Nat) : tgt (shR t) 0 38 = some 16 := rfl
theorem hR_0_59 (t : Nat) : okR (shR t) 0 12 39 = true := rfl
theorem hR_0_60 (t : Nat) : tgt (shR t) 0 39 = some 17 := rfl
theorem hR_0_61 (t : Nat) : okR (shR t) 0 12 40 = true := rfl
theorem hR_0_62 (t : Nat) : tgt (shR t) 0 40 = some 18 := rfl
theorem hR_0_63 (t : Nat) : okR (shR t) 0 12 41 = true := rfl
theorem hR_0_64 (t : Nat) : tgt (shR t) 0 41 = some 19 := rfl
theorem hR_0_65 (t : Nat) : okR (shR t) 0 12 42 = true := rfl
theorem hR_0_66 (t : Nat) : tgt (shR t) 0 42 = some 20 := rfl
theorem hR_0_67 (t : Nat) : okR (shR t) 0 12 43 = true := rfl
theorem hR_0_68 (t : Nat) : tgt (shR t) 0 43 = some 21 := rfl
theorem hR_0_69 (t : Nat) : okR (shR t) 0 12 44 = true := rfl
theorem hR_0_70 (t : Nat) : tgt (shR t) 0 44 = some 22 := rfl
theorem hR_0_71 (t : Nat) : okR (shR t) 0 12 45 = true := rfl
theorem hR_0_72 (t : Nat) : tgt (shR t) 0 45 = some 23 := rfl
theorem hR_0_73 (t : Nat) : okR (shR t) 0 12 46 = true := rfl
theorem hR_0_74 (t : Nat) : tgt (shR t) 0 46 = some 24 := rfl
theorem hR_0_75 (t : Nat) : okR (shR t) 0 12 47 = true := rfl
theorem hR_0_76 (t : Nat) : tgt (shR t) 0 47 = some 25 := rfl
theorem hR_0_77 (t : Nat) : okP (shR t) 0 12 48 = true := rfl
theorem hR_0_78 (t : Nat) : okP (shR t) 0 12 49 = true := rfl
theorem hR_0_79 (t : Nat) : okP (shR t) 0 12 50 = true := rfl
theorem hR_0_80 (t : Nat) : okP (shR t) 0 12 51 = true := rfl
theorem hR_0_81 (t : Nat) : okP (shR t) 0 12 52 = true := rfl
theorem hR_0_82 (t : Nat) : okP (shR t) 0 12 53 = true := rfl
theorem hR_0_83 (t : Nat) : okR (shR t) 0 12 54 = true := rfl
theorem hR_0_84 (t : Nat) : tgt (shR t) 0 54 = some 26 := rfl
theorem hR_0_85 (t : Nat) : okR (shR t) 0 12 55 = true := rfl
theorem hR_0_86 (t : Nat) : tgt (shR t) 0 55 = some 27 := rfl
theorem hR_0_87 (t : Nat) : okP (shR t) 0 12 56 = true := rfl
theorem hR_0_88 (t : Nat) : okP (shR t) 0 12 57 = true := rfl
theorem hR_0_89 (t : Nat) : okP (shR t) 0 12 58 = true := rfl
theorem hR_0_90 (t : Nat) : okP (shR t) 0 12 59 = true := rfl
theorem hR_1_0 (t : Nat) : alnB (shR t) 1 = 160 := rfl
theorem hR_2_0 (t : Nat) : alnB (shR t) 2 = 640 := rfl
theorem hR_3_0 (t : Nat) : aln (shR t) .int 3 = 4 := rfl
theorem hR_4_0 (t : Nat) : aln (shR t) .int 4 = 128 := rfl
theorem hR_5_0 (t : Nat) : aln (shR t) .int 5 = 6 := rfl
theorem hR_6_0 (t : Nat) : aln (shR t) .int 6 = 6 := rfl
theorem hR_7_0 (t : Nat) : aln (shR t) .int 7 = 6 := rfl
theorem hR_8_0 (t : Nat) : aln (shR t) .int 8 = 4 := rfl
theorem hR_9_0 (t : Nat) : aln (shR t) .int 9 = 4 := rfl
theorem hR_10_0 (t : Nat) : aln (shR t) .int 10 = 7 := rfl
theorem hR_11_0 (t : Nat) : aln (shR t) .int 11 = 6 := rfl
theorem hR_12_0 (t : Nat) : aln (shR t) .int 12 = 4 := rfl
theorem hR_13_0 (t : Nat) : aln (shR t) .int 13 = 4 := rfl
theorem hR_14_0 (t : Nat) : aln (shR t) .int 14 = 24 := rfl
theorem hR_15_0 (t : Nat) : aln (shR t) .int 15 = 6 := rfl
theorem hR_16_0 (t : Nat) : aln (shR t) .int 16 = 6 := rfl
theorem hR_17_0 (t : Nat) : aln (shR t) .int 17 = 6 := rfl
theorem hR_18_0 (t : Nat) : aln (shR t) .int 18 = 6 := rfl
theorem hR_19_0 (t : Nat) : aln (shR t) .int 19 = 4096 := rfl
theorem hR_20_0 (t : Nat) : aln (shR t) .int 20 = 4096 := rfl
theorem hR_21_0 (t : Nat) : aln (shR t) .int 21 = 6 := rfl
theorem hR_22_0 (t : Nat) : alnB (shR t) 22 = 4096 := rfl
theorem hR_23_0 (t : Nat) : alnB (shR t) 23 = 4096 := rfl
theorem hR_24_0 (t : Nat) : aln (shR t) .int 24 = 20 := rfl
theorem hR_25_0 (t : Nat) : aln (shR t) .int 25 = 20 := rfl
theorem hR_26_0 (t : Nat) : aln (shR t) .int 26 = 6 := rfl
theorem hR_27_0 (t : Nat) : aln (shR t) .int 27 = 6 := rfl
theorem stBC_55 {v : Int} : stB shC 55 v = (decide (v = 0) || decide (v = 1)) := rfl
theorem stBC_59 {v : Int} : stB shC 59 v = (decide (v = 0) || decide (v = 1)) := rfl
theorem stBR_1 (t : Nat) {v : Int} : stB (shR t) 1 v = (decide (-128 ≤ v) && decide (v ≤ 127)) := rfl
theorem stBR_2 (t : Nat) {v : Int} : stB (shR t) 2 v = (decide (-128 ≤ v) && decide (v ≤ 127)) := rfl
theorem stBR_22 (t : Nat) {v : Int} : stB (shR t) 22 v = (decide (v = 0) || decide (v = 1)) := rfl
theorem stBR_23 (t : Nat) {v : Int} : stB (shR t) 23 v = (decide (v = 0) || decide (v = 1)) := rfl
theorem up_s {σ : Sto} {k : Nat} {i v : Int} : up σ k i v k i = v := by simp [up]
theorem up_k {σ : Sto} {k k' : Nat} {i i' v : Int} (h : k' ≠ k) : up σ k i v k' i' = σ k' i' := by simp [up, h]
theorem up_i {σ : Sto} {k : Nat} {i i' v : Int} (h : i' ≠ i) : up σ k i v k i' = σ k i' := by simp [up, h]
theorem up_kf {σ : Sto} {k k' : Nat} {i v : Int} (h : k' ≠ k) : up σ k i v k' = σ k' := by funext i'; simp [up, h]
theorem up_up {σ : Sto} {k : Nat} {i v w : Int} : up (up σ k i v) k i w = up σ k i w := by
  funext k' i'; simp only [up]; split <;> simp_all
theorem up_self {σ : Sto} {k : Nat} {i : Int} : up σ k i (σ k i) = σ := by
  funext k' i'; simp only [up]; split <;> simp_all
theorem up_eq {σ : Sto} {k : Nat} {i v : Int} (h : v = σ k i) : up σ k i v = σ := by rw [h, up_self]
theorem up_comm {σ : Sto} {k k' : Nat} {i i' v w : Int} (h : k ≠ k' ∨ i ≠ i') : up (up σ k i v) k' i' w = up (up σ k' i' w) k i v := by
  funext a b; simp only [up]; repeat' split
  all_goals first | rfl | (simp_all; done) | (exfalso; simp_all; done)
theorem w32_id {n : Int} (h1 : -2147483648 ≤ n) (h2 : n < 2147483648) : w32 n = n := by
  unfold w32; rw [Int.bmod_eq_of_le] <;> omega
theorem w64_id {n : Int} (h1 : -9223372036854775808 ≤ n) (h2 : n < 9223372036854775808) : w64 n = n := by
  unfold w64; rw [Int.bmod_eq_of_le] <;> omega
