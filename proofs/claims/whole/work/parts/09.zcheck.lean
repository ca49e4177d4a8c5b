-- the tables against the bytes
def lenI : Instr → Nat
  | .bipush _ => 2
  | .sipush _ => 3
  | .ldc _ => 2
  | .ldc_w _ => 3
  | .ldc2_w _ => 3
  | .iload _ => 2
  | .lload _ => 2
  | .aload _ => 2
  | .istore _ => 2
  | .lstore _ => 2
  | .astore _ => 2
  | .iinc _ _ => 3
  | .goto _ => 3
  | .ifCond _ _ => 3
  | .if_icmp _ _ => 3
  | .ifnull _ => 3
  | .ifnonnull _ => 3
  | .getfield _ => 3
  | .putfield _ => 3
  | .getstatic _ => 3
  | .invokestatic _ => 3
  | .invokevirtual _ => 3
  | .invokespecial _ => 3
  | .newarray _ => 2
  | .new _ => 3
  | _ => 1
def isSw : Instr → Bool
  | .tableswitch _ _ _ _ => true
  | .lookupswitch _ _ => true
  | _ => false
def ptOK (m a b : Nat) (c : Int) : Bool := match CL[a]? with
  | some (_, T, _) => (match tyC a b with
    | .int => c == 0
    | .boolean => c == 1
    | .object _ => c == 2
    | .array _ => c == 2
    | _ => false) && ((T b).2.2.2 == false || ((yM m).name == "<init>" && (T b).1 == cnm (clsM m)))
  | none => false
def eokX (m : Nat) (pc : Nat) (I : Instr) (a b : Nat) (c : Int) : Bool := match I with
  | .bipush n => decide (-128 ≤ n ∧ n ≤ 127)
  | .sipush n => decide (-32768 ≤ n ∧ n ≤ 32767)
  | .goto off => decide ((pc : Int) + off = (a : Int))
  | .ifnull off => decide ((pc : Int) + off = (a : Int))
  | .ifnonnull off => decide ((pc : Int) + off = (a : Int))
  | .ifCond _ off => decide ((pc : Int) + off = (a : Int))
  | .if_icmp _ off => decide ((pc : Int) + off = (a : Int))
  | .getfield ix => decide ((clsM m, ix, a, b) ∈ FT)
  | .putfield ix => decide ((clsM m, ix, a, b) ∈ FT) && ptOK m a b c
  | .getstatic ix => decide ((clsM m, ix, a) ∈ ST)
  | .new ix => decide ((clsM m, ix, a) ∈ NT)
  | .ldc ix => decide ((clsM m, ix, c) ∈ CT)
  | .ldc_w ix => decide ((clsM m, ix, c) ∈ CT)
  | .ldc2_w ix => decide ((clsM m, ix, c) ∈ LT)
  | .invokestatic ix => decide ((clsM m, ix, b, a) ∈ KT) && (b == 0 || b == 3)
  | .invokevirtual ix => decide ((clsM m, ix, b, a) ∈ KT) && b == 1
  | .invokespecial ix => (b == 5 && decide ((clsM m, ix) ∈ OT)) || (decide ((clsM m, ix, b, a) ∈ KT) && (b == 2 || b == 4))
  | _ => true
def eok (m : Nat) (q : Nat × EN) : Bool := match q with
  | (pc, I, np, a, b, c) => decide (decode (byM m) pc = .ok (I, np - pc)) && decide (pc ≤ np) && (isSw I || decide (np = pc + lenI I)) && eokX m pc I a b c
theorem ek_0_0 : ∀ q ∈ tb_Chances_part_0, eok 0 q = true := by decide +kernel
theorem ek_0 : ∀ q ∈ tb_Chances_part, eok 0 q = true := ek_0_0
theorem ek_1_0 : ∀ q ∈ tb_Chances_commonDivisor_0, eok 1 q = true := by decide +kernel
theorem ek_1 : ∀ q ∈ tb_Chances_commonDivisor, eok 1 q = true := ek_1_0
theorem ek_2_0 : ∀ q ∈ tb_Chances_mixed_0, eok 2 q = true := by decide +kernel
theorem ek_2 : ∀ q ∈ tb_Chances_mixed, eok 2 q = true := ek_2_0
theorem ek_3_0 : ∀ q ∈ tb_Chances_mixedInOrder_0, eok 3 q = true := by decide +kernel
theorem ek_3_1 : ∀ q ∈ tb_Chances_mixedInOrder_1, eok 3 q = true := by decide +kernel
theorem ek_3 : ∀ q ∈ tb_Chances_mixedInOrder, eok 3 q = true := List.forall_mem_append.mpr ⟨ek_3_0, ek_3_1⟩
theorem ek_4_0 : ∀ q ∈ tb_Chances_isTheFirst_0, eok 4 q = true := by decide +kernel
theorem ek_4 : ∀ q ∈ tb_Chances_isTheFirst, eok 4 q = true := ek_4_0
theorem ek_5_0 : ∀ q ∈ tb_Chances_winsRace_0, eok 5 q = true := by decide +kernel
theorem ek_5 : ∀ q ∈ tb_Chances_winsRace, eok 5 q = true := ek_5_0
theorem ek_6_0 : ∀ q ∈ tb_Chances_power_0, eok 6 q = true := by decide +kernel
theorem ek_6 : ∀ q ∈ tb_Chances_power, eok 6 q = true := ek_6_0
theorem ek_7_0 : ∀ q ∈ tb_Defence_init_0, eok 7 q = true := by decide +kernel
theorem ek_7 : ∀ q ∈ tb_Defence_init, eok 7 q = true := ek_7_0
theorem ek_8_0 : ∀ q ∈ tb_Defence_letIn_0, eok 8 q = true := by decide +kernel
theorem ek_8 : ∀ q ∈ tb_Defence_letIn, eok 8 q = true := ek_8_0
theorem ek_9_0 : ∀ q ∈ tb_Defence_slides_0, eok 9 q = true := by decide +kernel
theorem ek_9 : ∀ q ∈ tb_Defence_slides, eok 9 q = true := ek_9_0
theorem ek_10_0 : ∀ q ∈ tb_Defence_place_0, eok 10 q = true := by decide +kernel
theorem ek_10_1 : ∀ q ∈ tb_Defence_place_1, eok 10 q = true := by decide +kernel
theorem ek_10 : ∀ q ∈ tb_Defence_place, eok 10 q = true := List.forall_mem_append.mpr ⟨ek_10_0, ek_10_1⟩
theorem ek_11_0 : ∀ q ∈ tb_Defence_shotsPastOthers_0, eok 11 q = true := by decide +kernel
theorem ek_11 : ∀ q ∈ tb_Defence_shotsPastOthers, eok 11 q = true := ek_11_0
theorem ek_12_0 : ∀ q ∈ tb_Defence_tryKeeper_0, eok 12 q = true := by decide +kernel
theorem ek_12 : ∀ q ∈ tb_Defence_tryKeeper, eok 12 q = true := ek_12_0
theorem ek_13_0 : ∀ q ∈ tb_Evening_init_0, eok 13 q = true := by decide +kernel
theorem ek_13 : ∀ q ∈ tb_Evening_init, eok 13 q = true := ek_13_0
theorem ek_14_0 : ∀ q ∈ tb_Evening_table_0, eok 14 q = true := by decide +kernel
theorem ek_14 : ∀ q ∈ tb_Evening_table, eok 14 q = true := ek_14_0
theorem ek_15_0 : ∀ q ∈ tb_Evening_acts_0, eok 15 q = true := by decide +kernel
theorem ek_15 : ∀ q ∈ tb_Evening_acts, eok 15 q = true := ek_15_0
theorem ek_16_0 : ∀ q ∈ tb_Evening_stoppedAt_0, eok 16 q = true := by decide +kernel
theorem ek_16 : ∀ q ∈ tb_Evening_stoppedAt, eok 16 q = true := ek_16_0
theorem ek_17_0 : ∀ q ∈ tb_Evening_reason_0, eok 17 q = true := by decide +kernel
theorem ek_17 : ∀ q ∈ tb_Evening_reason, eok 17 q = true := ek_17_0
theorem ek_18_0 : ∀ q ∈ tb_Evening_firstGoal_0, eok 18 q = true := by decide +kernel
theorem ek_18 : ∀ q ∈ tb_Evening_firstGoal, eok 18 q = true := ek_18_0
theorem ek_19_0 : ∀ q ∈ tb_Evening_play_0, eok 19 q = true := by decide +kernel
theorem ek_19_1 : ∀ q ∈ tb_Evening_play_1, eok 19 q = true := by decide +kernel
theorem ek_19 : ∀ q ∈ tb_Evening_play, eok 19 q = true := List.forall_mem_append.mpr ⟨ek_19_0, ek_19_1⟩
theorem ek_20_0 : ∀ q ∈ tb_Grasps_isRow_0, eok 20 q = true := by decide +kernel
theorem ek_20 : ∀ q ∈ tb_Grasps_isRow, eok 20 q = true := ek_20_0
theorem ek_21_0 : ∀ q ∈ tb_Grasps_fewest_0, eok 21 q = true := by decide +kernel
theorem ek_21 : ∀ q ∈ tb_Grasps_fewest, eok 21 q = true := ek_21_0
theorem ek_22_0 : ∀ q ∈ tb_Grasps_needed_0, eok 22 q = true := by decide +kernel
theorem ek_22 : ∀ q ∈ tb_Grasps_needed, eok 22 q = true := ek_22_0
theorem ek_23_0 : ∀ q ∈ tb_Grasps_latest_0, eok 23 q = true := by decide +kernel
theorem ek_23 : ∀ q ∈ tb_Grasps_latest, eok 23 q = true := ek_23_0
theorem ek_24_0 : ∀ q ∈ tb_Grasps_nextNeed_0, eok 24 q = true := by decide +kernel
theorem ek_24 : ∀ q ∈ tb_Grasps_nextNeed, eok 24 q = true := ek_24_0
theorem ek_25_0 : ∀ q ∈ tb_Image_init_0, eok 25 q = true := by decide +kernel
theorem ek_25 : ∀ q ∈ tb_Image_init, eok 25 q = true := ek_25_0
theorem ek_26_0 : ∀ q ∈ tb_Image_keep_0, eok 26 q = true := by decide +kernel
theorem ek_26 : ∀ q ∈ tb_Image_keep, eok 26 q = true := ek_26_0
theorem ek_27_0 : ∀ q ∈ tb_Image_giveBack_0, eok 27 q = true := by decide +kernel
theorem ek_27 : ∀ q ∈ tb_Image_giveBack, eok 27 q = true := ek_27_0
theorem ek_28_0 : ∀ q ∈ tb_Pad_init_0, eok 28 q = true := by decide +kernel
theorem ek_28 : ∀ q ∈ tb_Pad_init, eok 28 q = true := ek_28_0
theorem ek_29_0 : ∀ q ∈ tb_Pad_size_0, eok 29 q = true := by decide +kernel
theorem ek_29 : ∀ q ∈ tb_Pad_size, eok 29 q = true := ek_29_0
theorem ek_30_0 : ∀ q ∈ tb_Pad_add_0, eok 30 q = true := by decide +kernel
theorem ek_30 : ∀ q ∈ tb_Pad_add, eok 30 q = true := ek_30_0
theorem ek_31_0 : ∀ q ∈ tb_Pad_clear_0, eok 31 q = true := by decide +kernel
theorem ek_31 : ∀ q ∈ tb_Pad_clear, eok 31 q = true := ek_31_0
theorem ek_32_0 : ∀ q ∈ tb_Pad_rewind_0, eok 32 q = true := by decide +kernel
theorem ek_32 : ∀ q ∈ tb_Pad_rewind, eok 32 q = true := ek_32_0
theorem ek_33_0 : ∀ q ∈ tb_Pad_isReadOut_0, eok 33 q = true := by decide +kernel
theorem ek_33 : ∀ q ∈ tb_Pad_isReadOut, eok 33 q = true := ek_33_0
theorem ek_34_0 : ∀ q ∈ tb_Pad_kind_0, eok 34 q = true := by decide +kernel
theorem ek_34 : ∀ q ∈ tb_Pad_kind, eok 34 q = true := ek_34_0
theorem ek_35_0 : ∀ q ∈ tb_Pad_rod_0, eok 35 q = true := by decide +kernel
theorem ek_35 : ∀ q ∈ tb_Pad_rod, eok 35 q = true := ek_35_0
theorem ek_36_0 : ∀ q ∈ tb_Pad_number_0, eok 36 q = true := by decide +kernel
theorem ek_36 : ∀ q ∈ tb_Pad_number, eok 36 q = true := ek_36_0
theorem ek_37_0 : ∀ q ∈ tb_Pad_faultPlace_0, eok 37 q = true := by decide +kernel
theorem ek_37 : ∀ q ∈ tb_Pad_faultPlace, eok 37 q = true := ek_37_0
theorem ek_38_0 : ∀ q ∈ tb_Pad_readAct_0, eok 38 q = true := by decide +kernel
theorem ek_38_1 : ∀ q ∈ tb_Pad_readAct_1, eok 38 q = true := by decide +kernel
theorem ek_38 : ∀ q ∈ tb_Pad_readAct, eok 38 q = true := List.forall_mem_append.mpr ⟨ek_38_0, ek_38_1⟩
theorem ek_39_0 : ∀ q ∈ tb_Pad_takesHandling_0, eok 39 q = true := by decide +kernel
theorem ek_39 : ∀ q ∈ tb_Pad_takesHandling, eok 39 q = true := ek_39_0
theorem ek_40_0 : ∀ q ∈ tb_Pad_takesWay_0, eok 40 q = true := by decide +kernel
theorem ek_40 : ∀ q ∈ tb_Pad_takesWay, eok 40 q = true := ek_40_0
theorem ek_41_0 : ∀ q ∈ tb_Pad_takes_0, eok 41 q = true := by decide +kernel
theorem ek_41 : ∀ q ∈ tb_Pad_takes, eok 41 q = true := ek_41_0
theorem ek_42_0 : ∀ q ∈ tb_Pad_takesRod_0, eok 42 q = true := by decide +kernel
theorem ek_42 : ∀ q ∈ tb_Pad_takesRod, eok 42 q = true := ek_42_0
theorem ek_43_0 : ∀ q ∈ tb_Pad_takesDigit_0, eok 43 q = true := by decide +kernel
theorem ek_43 : ∀ q ∈ tb_Pad_takesDigit, eok 43 q = true := ek_43_0
theorem ek_44_0 : ∀ q ∈ tb_Pad_nextSign_0, eok 44 q = true := by decide +kernel
theorem ek_44 : ∀ q ∈ tb_Pad_nextSign, eok 44 q = true := ek_44_0
theorem ek_45_0 : ∀ q ∈ tb_Passes_init_0, eok 45 q = true := by decide +kernel
theorem ek_45 : ∀ q ∈ tb_Passes_init, eok 45 q = true := ek_45_0
theorem ek_46_0 : ∀ q ∈ tb_Passes_from_0, eok 46 q = true := by decide +kernel
theorem ek_46 : ∀ q ∈ tb_Passes_from, eok 46 q = true := ek_46_0
theorem ek_47_0 : ∀ q ∈ tb_Passes_countTo_0, eok 47 q = true := by decide +kernel
theorem ek_47 : ∀ q ∈ tb_Passes_countTo, eok 47 q = true := ek_47_0
theorem ek_48_0 : ∀ q ∈ tb_Passes_leads_0, eok 48 q = true := by decide +kernel
theorem ek_48 : ∀ q ∈ tb_Passes_leads, eok 48 q = true := ek_48_0
theorem ek_49_0 : ∀ q ∈ tb_Passes_firstFrom_0, eok 49 q = true := by decide +kernel
theorem ek_49 : ∀ q ∈ tb_Passes_firstFrom, eok 49 q = true := ek_49_0
theorem ek_50_0 : ∀ q ∈ tb_Passes_receiver_0, eok 50 q = true := by decide +kernel
theorem ek_50 : ∀ q ∈ tb_Passes_receiver, eok 50 q = true := ek_50_0
theorem ek_51_0 : ∀ q ∈ tb_Passes_ownOnly_0, eok 51 q = true := by decide +kernel
theorem ek_51 : ∀ q ∈ tb_Passes_ownOnly, eok 51 q = true := ek_51_0
theorem ek_52_0 : ∀ q ∈ tb_Rods_isRod_0, eok 52 q = true := by decide +kernel
theorem ek_52 : ∀ q ∈ tb_Rods_isRod, eok 52 q = true := ek_52_0
theorem ek_53_0 : ∀ q ∈ tb_Rods_isMan_0, eok 53 q = true := by decide +kernel
theorem ek_53 : ∀ q ∈ tb_Rods_isMan, eok 53 q = true := ek_53_0
theorem ek_54_0 : ∀ q ∈ tb_Rods_sideOf_0, eok 54 q = true := by decide +kernel
theorem ek_54 : ∀ q ∈ tb_Rods_sideOf, eok 54 q = true := ek_54_0
theorem ek_55_0 : ∀ q ∈ tb_Rods_menOf_0, eok 55 q = true := by decide +kernel
theorem ek_55 : ∀ q ∈ tb_Rods_menOf, eok 55 q = true := ek_55_0
theorem ek_56_0 : ∀ q ∈ tb_Rods_gapOf_0, eok 56 q = true := by decide +kernel
theorem ek_56 : ∀ q ∈ tb_Rods_gapOf, eok 56 q = true := ek_56_0
theorem ek_57_0 : ∀ q ∈ tb_Rods_lastSlide_0, eok 57 q = true := by decide +kernel
theorem ek_57 : ∀ q ∈ tb_Rods_lastSlide, eok 57 q = true := ek_57_0
theorem ek_58_0 : ∀ q ∈ tb_Rods_isOf_0, eok 58 q = true := by decide +kernel
theorem ek_58 : ∀ q ∈ tb_Rods_isOf, eok 58 q = true := ek_58_0
theorem ek_59_0 : ∀ q ∈ tb_Rods_keeperOf_0, eok 59 q = true := by decide +kernel
theorem ek_59 : ∀ q ∈ tb_Rods_keeperOf, eok 59 q = true := ek_59_0
theorem ek_60_0 : ∀ q ∈ tb_Rods_backsOf_0, eok 60 q = true := by decide +kernel
theorem ek_60 : ∀ q ∈ tb_Rods_backsOf, eok 60 q = true := ek_60_0
theorem ek_61_0 : ∀ q ∈ tb_Rods_stepToGoalOf_0, eok 61 q = true := by decide +kernel
theorem ek_61 : ∀ q ∈ tb_Rods_stepToGoalOf, eok 61 q = true := ek_61_0
theorem ek_62_0 : ∀ q ∈ tb_Sights_init_0, eok 62 q = true := by decide +kernel
theorem ek_62 : ∀ q ∈ tb_Sights_init, eok 62 q = true := ek_62_0
theorem ek_63_0 : ∀ q ∈ tb_Sights_size_0, eok 63 q = true := by decide +kernel
theorem ek_63 : ∀ q ∈ tb_Sights_size, eok 63 q = true := ek_63_0
theorem ek_64_0 : ∀ q ∈ tb_Sights_add_0, eok 64 q = true := by decide +kernel
theorem ek_64 : ∀ q ∈ tb_Sights_add, eok 64 q = true := ek_64_0
theorem ek_65_0 : ∀ q ∈ tb_Sights_clear_0, eok 65 q = true := by decide +kernel
theorem ek_65 : ∀ q ∈ tb_Sights_clear, eok 65 q = true := ek_65_0
theorem ek_66_0 : ∀ q ∈ tb_Sights_copyFrom_0, eok 66 q = true := by decide +kernel
theorem ek_66 : ∀ q ∈ tb_Sights_copyFrom, eok 66 q = true := ek_66_0
theorem ek_67_0 : ∀ q ∈ tb_Sights_findRows_0, eok 67 q = true := by decide +kernel
theorem ek_67 : ∀ q ∈ tb_Sights_findRows, eok 67 q = true := ek_67_0
theorem ek_68_0 : ∀ q ∈ tb_Sights_rowFound_0, eok 68 q = true := by decide +kernel
theorem ek_68 : ∀ q ∈ tb_Sights_rowFound, eok 68 q = true := ek_68_0
theorem ek_69_0 : ∀ q ∈ tb_Sights_bestShot_0, eok 69 q = true := by decide +kernel
theorem ek_69 : ∀ q ∈ tb_Sights_bestShot, eok 69 q = true := ek_69_0
theorem ek_70_0 : ∀ q ∈ tb_Sights_mostLeft_0, eok 70 q = true := by decide +kernel
theorem ek_70 : ∀ q ∈ tb_Sights_mostLeft, eok 70 q = true := ek_70_0
theorem ek_71_0 : ∀ q ∈ tb_Sights_isRow_0, eok 71 q = true := by decide +kernel
theorem ek_71 : ∀ q ∈ tb_Sights_isRow, eok 71 q = true := ek_71_0
theorem ek_72_0 : ∀ q ∈ tb_Sights_fitsAll_0, eok 72 q = true := by decide +kernel
theorem ek_72 : ∀ q ∈ tb_Sights_fitsAll, eok 72 q = true := ek_72_0
theorem ek_73_0 : ∀ q ∈ tb_Sights_sideBy_0, eok 73 q = true := by decide +kernel
theorem ek_73 : ∀ q ∈ tb_Sights_sideBy, eok 73 q = true := ek_73_0
theorem ek_74_0 : ∀ q ∈ tb_Table_init_0, eok 74 q = true := by decide +kernel
theorem ek_74 : ∀ q ∈ tb_Table_init, eok 74 q = true := ek_74_0
theorem ek_75_0 : ∀ q ∈ tb_Table_copyFrom_0, eok 75 q = true := by decide +kernel
theorem ek_75 : ∀ q ∈ tb_Table_copyFrom, eok 75 q = true := ek_75_0
theorem ek_76_0 : ∀ q ∈ tb_Table_slideOf_0, eok 76 q = true := by decide +kernel
theorem ek_76 : ∀ q ∈ tb_Table_slideOf, eok 76 q = true := ek_76_0
theorem ek_77_0 : ∀ q ∈ tb_Table_slideTo_0, eok 77 q = true := by decide +kernel
theorem ek_77 : ∀ q ∈ tb_Table_slideTo, eok 77 q = true := ek_77_0
theorem ek_78_0 : ∀ q ∈ tb_Table_scoredBy_0, eok 78 q = true := by decide +kernel
theorem ek_78 : ∀ q ∈ tb_Table_scoredBy, eok 78 q = true := ek_78_0
theorem ek_79_0 : ∀ q ∈ tb_Table_setScored_0, eok 79 q = true := by decide +kernel
theorem ek_79 : ∀ q ∈ tb_Table_setScored, eok 79 q = true := ek_79_0
theorem ek_80_0 : ∀ q ∈ tb_Table_scoredInAll_0, eok 80 q = true := by decide +kernel
theorem ek_80 : ∀ q ∈ tb_Table_scoredInAll, eok 80 q = true := ek_80_0
theorem ek_81_0 : ∀ q ∈ tb_Table_heldRods_0, eok 81 q = true := by decide +kernel
theorem ek_81 : ∀ q ∈ tb_Table_heldRods, eok 81 q = true := ek_81_0
theorem ek_82_0 : ∀ q ∈ tb_Table_isHeld_0, eok 82 q = true := by decide +kernel
theorem ek_82 : ∀ q ∈ tb_Table_isHeld, eok 82 q = true := ek_82_0
theorem ek_83_0 : ∀ q ∈ tb_Table_heldBy_0, eok 83 q = true := by decide +kernel
theorem ek_83 : ∀ q ∈ tb_Table_heldBy, eok 83 q = true := ek_83_0
theorem ek_84_0 : ∀ q ∈ tb_Table_setHeld_0, eok 84 q = true := by decide +kernel
theorem ek_84 : ∀ q ∈ tb_Table_setHeld, eok 84 q = true := ek_84_0
theorem ek_85_0 : ∀ q ∈ tb_Table_tenth_0, eok 85 q = true := by decide +kernel
theorem ek_85 : ∀ q ∈ tb_Table_tenth, eok 85 q = true := ek_85_0
theorem ek_86_0 : ∀ q ∈ tb_Table_isDead_0, eok 86 q = true := by decide +kernel
theorem ek_86 : ∀ q ∈ tb_Table_isDead, eok 86 q = true := ek_86_0
theorem ek_87_0 : ∀ q ∈ tb_Table_ballRod_0, eok 87 q = true := by decide +kernel
theorem ek_87 : ∀ q ∈ tb_Table_ballRod, eok 87 q = true := ek_87_0
theorem ek_88_0 : ∀ q ∈ tb_Table_ballMan_0, eok 88 q = true := by decide +kernel
theorem ek_88 : ∀ q ∈ tb_Table_ballMan, eok 88 q = true := ek_88_0
theorem ek_89_0 : ∀ q ∈ tb_Table_ballPlace_0, eok 89 q = true := by decide +kernel
theorem ek_89 : ∀ q ∈ tb_Table_ballPlace, eok 89 q = true := ek_89_0
theorem ek_90_0 : ∀ q ∈ tb_Table_loseBall_0, eok 90 q = true := by decide +kernel
theorem ek_90 : ∀ q ∈ tb_Table_loseBall, eok 90 q = true := ek_90_0
theorem ek_91_0 : ∀ q ∈ tb_Table_giveBall_0, eok 91 q = true := by decide +kernel
theorem ek_91 : ∀ q ∈ tb_Table_giveBall, eok 91 q = true := ek_91_0
theorem ek_92_0 : ∀ q ∈ tb_Table_placeOf_0, eok 92 q = true := by decide +kernel
theorem ek_92 : ∀ q ∈ tb_Table_placeOf, eok 92 q = true := ek_92_0
theorem ek_93_0 : ∀ q ∈ tb_Table_covererOf_0, eok 93 q = true := by decide +kernel
theorem ek_93 : ∀ q ∈ tb_Table_covererOf, eok 93 q = true := ek_93_0
theorem ek_94_0 : ∀ q ∈ tb_Table_nearestOf_0, eok 94 q = true := by decide +kernel
theorem ek_94 : ∀ q ∈ tb_Table_nearestOf, eok 94 q = true := ek_94_0
theorem ek_95_0 : ∀ q ∈ tb_Table_overFrom_0, eok 95 q = true := by decide +kernel
theorem ek_95_1 : ∀ q ∈ tb_Table_overFrom_1, eok 95 q = true := by decide +kernel
theorem ek_95 : ∀ q ∈ tb_Table_overFrom, eok 95 q = true := List.forall_mem_append.mpr ⟨ek_95_0, ek_95_1⟩
theorem ek_96_0 : ∀ q ∈ tb_Table_shotEnd_0, eok 96 q = true := by decide +kernel
theorem ek_96_1 : ∀ q ∈ tb_Table_shotEnd_1, eok 96 q = true := by decide +kernel
theorem ek_96 : ∀ q ∈ tb_Table_shotEnd, eok 96 q = true := List.forall_mem_append.mpr ⟨ek_96_0, ek_96_1⟩
theorem ek_97_0 : ∀ q ∈ tb_Table_reachesGoal_0, eok 97 q = true := by decide +kernel
theorem ek_97 : ∀ q ∈ tb_Table_reachesGoal, eok 97 q = true := ek_97_0
theorem ek_98_0 : ∀ q ∈ tb_Table_shotsToGoal_0, eok 98 q = true := by decide +kernel
theorem ek_98 : ∀ q ∈ tb_Table_shotsToGoal, eok 98 q = true := ek_98_0
theorem ek_99_0 : ∀ q ∈ tb_Table_shotsPast_0, eok 99 q = true := by decide +kernel
theorem ek_99 : ∀ q ∈ tb_Table_shotsPast, eok 99 q = true := ek_99_0
theorem ek_100_0 : ∀ q ∈ tb_Table_bounced_0, eok 100 q = true := by decide +kernel
theorem ek_100 : ∀ q ∈ tb_Table_bounced, eok 100 q = true := ek_100_0
theorem ek_101_0 : ∀ q ∈ tb_Table_whyNot_0, eok 101 q = true := by decide +kernel
theorem ek_101_1 : ∀ q ∈ tb_Table_whyNot_1, eok 101 q = true := by decide +kernel
theorem ek_101 : ∀ q ∈ tb_Table_whyNot, eok 101 q = true := List.forall_mem_append.mpr ⟨ek_101_0, ek_101_1⟩
theorem ek_102_0 : ∀ q ∈ tb_Table_isPlayed_0, eok 102 q = true := by decide +kernel
theorem ek_102 : ∀ q ∈ tb_Table_isPlayed, eok 102 q = true := ek_102_0
theorem ek_103_0 : ∀ q ∈ tb_Table_isHeldWrongly_0, eok 103 q = true := by decide +kernel
theorem ek_103 : ∀ q ∈ tb_Table_isHeldWrongly, eok 103 q = true := ek_103_0
theorem ek_104_0 : ∀ q ∈ tb_Table_isNextMan_0, eok 104 q = true := by decide +kernel
theorem ek_104 : ∀ q ∈ tb_Table_isNextMan, eok 104 q = true := ek_104_0
theorem ek_105_0 : ∀ q ∈ tb_Table_perform_0, eok 105 q = true := by decide +kernel
theorem ek_105_1 : ∀ q ∈ tb_Table_perform_1, eok 105 q = true := by decide +kernel
theorem ek_105 : ∀ q ∈ tb_Table_perform, eok 105 q = true := List.forall_mem_append.mpr ⟨ek_105_0, ek_105_1⟩
theorem ek_106_0 : ∀ q ∈ tb_Table_endShot_0, eok 106 q = true := by decide +kernel
theorem ek_106 : ∀ q ∈ tb_Table_endShot, eok 106 q = true := ek_106_0
theorem ek_107_0 : ∀ q ∈ tb_Table_tryDrawn_0, eok 107 q = true := by decide +kernel
theorem ek_107 : ∀ q ∈ tb_Table_tryDrawn, eok 107 q = true := ek_107_0
theorem ek_108_0 : ∀ q ∈ tb_Table_drawnNumber_0, eok 108 q = true := by decide +kernel
theorem ek_108 : ∀ q ∈ tb_Table_drawnNumber, eok 108 q = true := ek_108_0
theorem ek_109_0 : ∀ q ∈ tb_F_init_0, eok 109 q = true := by decide +kernel
theorem ek_109 : ∀ q ∈ tb_F_init, eok 109 q = true := ek_109_0
theorem ek_110_0 : ∀ q ∈ tb_F_slide_0, eok 110 q = true := by decide +kernel
theorem ek_110 : ∀ q ∈ tb_F_slide, eok 110 q = true := ek_110_0
theorem ek_111_0 : ∀ q ∈ tb_F_hold_0, eok 111 q = true := by decide +kernel
theorem ek_111 : ∀ q ∈ tb_F_hold, eok 111 q = true := ek_111_0
theorem ek_112_0 : ∀ q ∈ tb_F_ball_0, eok 112 q = true := by decide +kernel
theorem ek_112 : ∀ q ∈ tb_F_ball, eok 112 q = true := ek_112_0
theorem ek_113_0 : ∀ q ∈ tb_F_goals_0, eok 113 q = true := by decide +kernel
theorem ek_113 : ∀ q ∈ tb_F_goals, eok 113 q = true := ek_113_0
theorem ek_114_0 : ∀ q ∈ tb_F_say_0, eok 114 q = true := by decide +kernel
theorem ek_114 : ∀ q ∈ tb_F_say, eok 114 q = true := ek_114_0
theorem ek_115_0 : ∀ q ∈ tb_F_wipe_0, eok 115 q = true := by decide +kernel
theorem ek_115 : ∀ q ∈ tb_F_wipe, eok 115 q = true := ek_115_0
theorem ek_116_0 : ∀ q ∈ tb_F_fault_0, eok 116 q = true := by decide +kernel
theorem ek_116 : ∀ q ∈ tb_F_fault, eok 116 q = true := ek_116_0
theorem ek_117_0 : ∀ q ∈ tb_F_judge_0, eok 117 q = true := by decide +kernel
theorem ek_117 : ∀ q ∈ tb_F_judge, eok 117 q = true := ek_117_0
theorem ek_118_0 : ∀ q ∈ tb_F_done_0, eok 118 q = true := by decide +kernel
theorem ek_118 : ∀ q ∈ tb_F_done, eok 118 q = true := ek_118_0
theorem ek_119_0 : ∀ q ∈ tb_F_behind_0, eok 119 q = true := by decide +kernel
theorem ek_119 : ∀ q ∈ tb_F_behind, eok 119 q = true := ek_119_0
theorem ek_120_0 : ∀ q ∈ tb_F_then_0, eok 120 q = true := by decide +kernel
theorem ek_120 : ∀ q ∈ tb_F_then, eok 120 q = true := ek_120_0
theorem ek_121_0 : ∀ q ∈ tb_F_ends_0, eok 121 q = true := by decide +kernel
theorem ek_121 : ∀ q ∈ tb_F_ends, eok 121 q = true := ek_121_0
theorem ek_122_0 : ∀ q ∈ tb_F_goesIn_0, eok 122 q = true := by decide +kernel
theorem ek_122 : ∀ q ∈ tb_F_goesIn, eok 122 q = true := ek_122_0
theorem ek_123_0 : ∀ q ∈ tb_F_path_0, eok 123 q = true := by decide +kernel
theorem ek_123 : ∀ q ∈ tb_F_path, eok 123 q = true := ek_123_0
theorem ek_124_0 : ∀ q ∈ tb_F_stand_0, eok 124 q = true := by decide +kernel
theorem ek_124 : ∀ q ∈ tb_F_stand, eok 124 q = true := ek_124_0
theorem ek_125_0 : ∀ q ∈ tb_F_mix_0, eok 125 q = true := by decide +kernel
theorem ek_125 : ∀ q ∈ tb_F_mix, eok 125 q = true := ek_125_0
theorem ek_126_0 : ∀ q ∈ tb_F_hands_0, eok 126 q = true := by decide +kernel
theorem ek_126 : ∀ q ∈ tb_F_hands, eok 126 q = true := ek_126_0
theorem ek_127_0 : ∀ q ∈ tb_F_truly_0, eok 127 q = true := by decide +kernel
theorem ek_127 : ∀ q ∈ tb_F_truly, eok 127 q = true := ek_127_0
theorem ek_128_0 : ∀ q ∈ tb_F_race_0, eok 128 q = true := by decide +kernel
theorem ek_128 : ∀ q ∈ tb_F_race, eok 128 q = true := ek_128_0
theorem ek_129_0 : ∀ q ∈ tb_F_seen_0, eok 129 q = true := by decide +kernel
theorem ek_129 : ∀ q ∈ tb_F_seen, eok 129 q = true := ek_129_0
theorem ek_130_0 : ∀ q ∈ tb_F_forget_0, eok 130 q = true := by decide +kernel
theorem ek_130 : ∀ q ∈ tb_F_forget, eok 130 q = true := ek_130_0
theorem ek_131_0 : ∀ q ∈ tb_F_fits_0, eok 131 q = true := by decide +kernel
theorem ek_131 : ∀ q ∈ tb_F_fits, eok 131 q = true := ek_131_0
theorem ek_132_0 : ∀ q ∈ tb_F_ask_0, eok 132 q = true := by decide +kernel
theorem ek_132 : ∀ q ∈ tb_F_ask, eok 132 q = true := ek_132_0
theorem ek_133_0 : ∀ q ∈ tb_F_year_0, eok 133 q = true := by decide +kernel
theorem ek_133 : ∀ q ∈ tb_F_year, eok 133 q = true := ek_133_0
theorem ek_134_0 : ∀ q ∈ tb_F_image_0, eok 134 q = true := by decide +kernel
theorem ek_134 : ∀ q ∈ tb_F_image, eok 134 q = true := ek_134_0
theorem ek_135_0 : ∀ q ∈ tb_F_restore_0, eok 135 q = true := by decide +kernel
theorem ek_135 : ∀ q ∈ tb_F_restore, eok 135 q = true := ek_135_0
theorem ek_136_0 : ∀ q ∈ tb_F_told_0, eok 136 q = true := by decide +kernel
theorem ek_136 : ∀ q ∈ tb_F_told, eok 136 q = true := ek_136_0
theorem ek_137_0 : ∀ q ∈ tb_F_toldByNumber_0, eok 137 q = true := by decide +kernel
theorem ek_137 : ∀ q ∈ tb_F_toldByNumber, eok 137 q = true := ek_137_0
theorem ek_138_0 : ∀ q ∈ tb_F_playsThrough_0, eok 138 q = true := by decide +kernel
theorem ek_138 : ∀ q ∈ tb_F_playsThrough, eok 138 q = true := ek_138_0
theorem ek_139_0 : ∀ q ∈ tb_F_imageOf_0, eok 139 q = true := by decide +kernel
theorem ek_139 : ∀ q ∈ tb_F_imageOf, eok 139 q = true := ek_139_0
theorem ek_140_0 : ∀ q ∈ tb_F_isWithin_0, eok 140 q = true := by decide +kernel
theorem ek_140 : ∀ q ∈ tb_F_isWithin, eok 140 q = true := ek_140_0
theorem ek_141_0 : ∀ q ∈ tb_F_isBit_0, eok 141 q = true := by decide +kernel
theorem ek_141 : ∀ q ∈ tb_F_isBit, eok 141 q = true := ek_141_0
theorem ek_142_0 : ∀ q ∈ tb_F_isTenths_0, eok 142 q = true := by decide +kernel
theorem ek_142 : ∀ q ∈ tb_F_isTenths, eok 142 q = true := ek_142_0
theorem ek_143_0 : ∀ q ∈ tb_F_shotBit_0, eok 143 q = true := by decide +kernel
theorem ek_143 : ∀ q ∈ tb_F_shotBit, eok 143 q = true := ek_143_0
theorem ek_144_0 : ∀ q ∈ tb_F_copyRow_0, eok 144 q = true := by decide +kernel
theorem ek_144 : ∀ q ∈ tb_F_copyRow, eok 144 q = true := ek_144_0
theorem ek_145_0 : ∀ q ∈ tb_M_init_0, eok 145 q = true := by decide +kernel
theorem ek_145_1 : ∀ q ∈ tb_M_init_1, eok 145 q = true := by decide +kernel
theorem ek_145 : ∀ q ∈ tb_M_init, eok 145 q = true := List.forall_mem_append.mpr ⟨ek_145_0, ek_145_1⟩
theorem ek_146_0 : ∀ q ∈ tb_M_in_0, eok 146 q = true := by decide +kernel
theorem ek_146 : ∀ q ∈ tb_M_in, eok 146 q = true := ek_146_0
theorem ek_147_0 : ∀ q ∈ tb_M_bits_0, eok 147 q = true := by decide +kernel
theorem ek_147 : ∀ q ∈ tb_M_bits, eok 147 q = true := ek_147_0
theorem ek_148_0 : ∀ q ∈ tb_M_isRod_0, eok 148 q = true := by decide +kernel
theorem ek_148 : ∀ q ∈ tb_M_isRod, eok 148 q = true := ek_148_0
theorem ek_149_0 : ∀ q ∈ tb_M_sideOf_0, eok 149 q = true := by decide +kernel
theorem ek_149 : ∀ q ∈ tb_M_sideOf, eok 149 q = true := ek_149_0
theorem ek_150_0 : ∀ q ∈ tb_M_kindOf_0, eok 150 q = true := by decide +kernel
theorem ek_150 : ∀ q ∈ tb_M_kindOf, eok 150 q = true := ek_150_0
theorem ek_151_0 : ∀ q ∈ tb_M_menOf_0, eok 151 q = true := by decide +kernel
theorem ek_151 : ∀ q ∈ tb_M_menOf, eok 151 q = true := ek_151_0
theorem ek_152_0 : ∀ q ∈ tb_M_apartOf_0, eok 152 q = true := by decide +kernel
theorem ek_152 : ∀ q ∈ tb_M_apartOf, eok 152 q = true := ek_152_0
theorem ek_153_0 : ∀ q ∈ tb_M_widest_0, eok 153 q = true := by decide +kernel
theorem ek_153 : ∀ q ∈ tb_M_widest, eok 153 q = true := ek_153_0
theorem ek_154_0 : ∀ q ∈ tb_M_isMan_0, eok 154 q = true := by decide +kernel
theorem ek_154 : ∀ q ∈ tb_M_isMan, eok 154 q = true := ek_154_0
theorem ek_155_0 : ∀ q ∈ tb_M_held_0, eok 155 q = true := by decide +kernel
theorem ek_155 : ∀ q ∈ tb_M_held, eok 155 q = true := ek_155_0
theorem ek_156_0 : ∀ q ∈ tb_M_slide_0, eok 156 q = true := by decide +kernel
theorem ek_156 : ∀ q ∈ tb_M_slide, eok 156 q = true := ek_156_0
theorem ek_157_0 : ∀ q ∈ tb_M_hold_0, eok 157 q = true := by decide +kernel
theorem ek_157 : ∀ q ∈ tb_M_hold, eok 157 q = true := ek_157_0
theorem ek_158_0 : ∀ q ∈ tb_M_ball_0, eok 158 q = true := by decide +kernel
theorem ek_158 : ∀ q ∈ tb_M_ball, eok 158 q = true := ek_158_0
theorem ek_159_0 : ∀ q ∈ tb_M_goals_0, eok 159 q = true := by decide +kernel
theorem ek_159 : ∀ q ∈ tb_M_goals, eok 159 q = true := ek_159_0
theorem ek_160_0 : ∀ q ∈ tb_M_say_0, eok 160 q = true := by decide +kernel
theorem ek_160 : ∀ q ∈ tb_M_say, eok 160 q = true := ek_160_0
theorem ek_161_0 : ∀ q ∈ tb_M_wipe_0, eok 161 q = true := by decide +kernel
theorem ek_161 : ∀ q ∈ tb_M_wipe, eok 161 q = true := ek_161_0
theorem ek_162_0 : ∀ q ∈ tb_M_step_0, eok 162 q = true := by decide +kernel
theorem ek_162_1 : ∀ q ∈ tb_M_step_1, eok 162 q = true := by decide +kernel
theorem ek_162 : ∀ q ∈ tb_M_step, eok 162 q = true := List.forall_mem_append.mpr ⟨ek_162_0, ek_162_1⟩
theorem ek_163_0 : ∀ q ∈ tb_M_faultOf_0, eok 163 q = true := by decide +kernel
theorem ek_163 : ∀ q ∈ tb_M_faultOf, eok 163 q = true := ek_163_0
theorem ek_164_0 : ∀ q ∈ tb_M_fault_0, eok 164 q = true := by decide +kernel
theorem ek_164 : ∀ q ∈ tb_M_fault, eok 164 q = true := ek_164_0
theorem ek_165_0 : ∀ q ∈ tb_M_standsAt_0, eok 165 q = true := by decide +kernel
theorem ek_165 : ∀ q ∈ tb_M_standsAt, eok 165 q = true := ek_165_0
theorem ek_166_0 : ∀ q ∈ tb_M_covers_0, eok 166 q = true := by decide +kernel
theorem ek_166 : ∀ q ∈ tb_M_covers, eok 166 q = true := ek_166_0
theorem ek_167_0 : ∀ q ∈ tb_M_shotBy_0, eok 167 q = true := by decide +kernel
theorem ek_167_1 : ∀ q ∈ tb_M_shotBy_1, eok 167 q = true := by decide +kernel
theorem ek_167 : ∀ q ∈ tb_M_shotBy, eok 167 q = true := List.forall_mem_append.mpr ⟨ek_167_0, ek_167_1⟩
theorem ek_168_0 : ∀ q ∈ tb_M_overBy_0, eok 168 q = true := by decide +kernel
theorem ek_168_1 : ∀ q ∈ tb_M_overBy_1, eok 168 q = true := by decide +kernel
theorem ek_168 : ∀ q ∈ tb_M_overBy, eok 168 q = true := List.forall_mem_append.mpr ⟨ek_168_0, ek_168_1⟩
theorem ek_169_0 : ∀ q ∈ tb_M_asNow_0, eok 169 q = true := by decide +kernel
theorem ek_169 : ∀ q ∈ tb_M_asNow, eok 169 q = true := ek_169_0
theorem ek_170_0 : ∀ q ∈ tb_M_isOver_0, eok 170 q = true := by decide +kernel
theorem ek_170 : ∀ q ∈ tb_M_isOver, eok 170 q = true := ek_170_0
theorem ek_171_0 : ∀ q ∈ tb_M_grasp_0, eok 171 q = true := by decide +kernel
theorem ek_171 : ∀ q ∈ tb_M_grasp, eok 171 q = true := ek_171_0
theorem ek_172_0 : ∀ q ∈ tb_M_letGo_0, eok 172 q = true := by decide +kernel
theorem ek_172 : ∀ q ∈ tb_M_letGo, eok 172 q = true := ek_172_0
theorem ek_173_0 : ∀ q ∈ tb_M_slideBy_0, eok 173 q = true := by decide +kernel
theorem ek_173 : ∀ q ∈ tb_M_slideBy, eok 173 q = true := ek_173_0
theorem ek_174_0 : ∀ q ∈ tb_M_whyNot_0, eok 174 q = true := by decide +kernel
theorem ek_174 : ∀ q ∈ tb_M_whyNot, eok 174 q = true := ek_174_0
theorem ek_175_0 : ∀ q ∈ tb_M_passTo_0, eok 175 q = true := by decide +kernel
theorem ek_175 : ∀ q ∈ tb_M_passTo, eok 175 q = true := ek_175_0
theorem ek_176_0 : ∀ q ∈ tb_M_passOver_0, eok 176 q = true := by decide +kernel
theorem ek_176 : ∀ q ∈ tb_M_passOver, eok 176 q = true := ek_176_0
theorem ek_177_0 : ∀ q ∈ tb_M_shoot_0, eok 177 q = true := by decide +kernel
theorem ek_177 : ∀ q ∈ tb_M_shoot, eok 177 q = true := ek_177_0
theorem ek_178_0 : ∀ q ∈ tb_M_throwIn_0, eok 178 q = true := by decide +kernel
theorem ek_178 : ∀ q ∈ tb_M_throwIn, eok 178 q = true := ek_178_0
theorem ek_179_0 : ∀ q ∈ tb_M_endTenth_0, eok 179 q = true := by decide +kernel
theorem ek_179 : ∀ q ∈ tb_M_endTenth, eok 179 q = true := ek_179_0
theorem ek_180_0 : ∀ q ∈ tb_M_rodAct_0, eok 180 q = true := by decide +kernel
theorem ek_180 : ∀ q ∈ tb_M_rodAct, eok 180 q = true := ek_180_0
theorem ek_181_0 : ∀ q ∈ tb_M_nextAct_0, eok 181 q = true := by decide +kernel
theorem ek_181_1 : ∀ q ∈ tb_M_nextAct_1, eok 181 q = true := by decide +kernel
theorem ek_181_2 : ∀ q ∈ tb_M_nextAct_2, eok 181 q = true := by decide +kernel
theorem ek_181 : ∀ q ∈ tb_M_nextAct, eok 181 q = true := List.forall_mem_append.mpr ⟨List.forall_mem_append.mpr ⟨ek_181_0, ek_181_1⟩, ek_181_2⟩
theorem ek_182_0 : ∀ q ∈ tb_M_goEvenings_0, eok 182 q = true := by decide +kernel
theorem ek_182_1 : ∀ q ∈ tb_M_goEvenings_1, eok 182 q = true := by decide +kernel
theorem ek_182 : ∀ q ∈ tb_M_goEvenings, eok 182 q = true := List.forall_mem_append.mpr ⟨ek_182_0, ek_182_1⟩
theorem ek_183_0 : ∀ q ∈ tb_M_judge_0, eok 183 q = true := by decide +kernel
theorem ek_183 : ∀ q ∈ tb_M_judge, eok 183 q = true := ek_183_0
theorem ek_184_0 : ∀ q ∈ tb_M_barOfEvenings_0, eok 184 q = true := by decide +kernel
theorem ek_184 : ∀ q ∈ tb_M_barOfEvenings, eok 184 q = true := ek_184_0
theorem ek_185_0 : ∀ q ∈ tb_M_done_0, eok 185 q = true := by decide +kernel
theorem ek_185 : ∀ q ∈ tb_M_done, eok 185 q = true := ek_185_0
theorem ek_186_0 : ∀ q ∈ tb_M_behind_0, eok 186 q = true := by decide +kernel
theorem ek_186 : ∀ q ∈ tb_M_behind, eok 186 q = true := ek_186_0
theorem ek_187_0 : ∀ q ∈ tb_M_then_0, eok 187 q = true := by decide +kernel
theorem ek_187 : ∀ q ∈ tb_M_then, eok 187 q = true := ek_187_0
theorem ek_188_0 : ∀ q ∈ tb_M_ends_0, eok 188 q = true := by decide +kernel
theorem ek_188 : ∀ q ∈ tb_M_ends, eok 188 q = true := ek_188_0
theorem ek_189_0 : ∀ q ∈ tb_M_allIn_0, eok 189 q = true := by decide +kernel
theorem ek_189 : ∀ q ∈ tb_M_allIn, eok 189 q = true := ek_189_0
theorem ek_190_0 : ∀ q ∈ tb_M_goesIn_0, eok 190 q = true := by decide +kernel
theorem ek_190 : ∀ q ∈ tb_M_goesIn, eok 190 q = true := ek_190_0
theorem ek_191_0 : ∀ q ∈ tb_M_passes_0, eok 191 q = true := by decide +kernel
theorem ek_191 : ∀ q ∈ tb_M_passes, eok 191 q = true := ek_191_0
theorem ek_192_0 : ∀ q ∈ tb_M_path_0, eok 192 q = true := by decide +kernel
theorem ek_192_1 : ∀ q ∈ tb_M_path_1, eok 192 q = true := by decide +kernel
theorem ek_192_2 : ∀ q ∈ tb_M_path_2, eok 192 q = true := by decide +kernel
theorem ek_192_3 : ∀ q ∈ tb_M_path_3, eok 192 q = true := by decide +kernel
theorem ek_192 : ∀ q ∈ tb_M_path, eok 192 q = true := List.forall_mem_append.mpr ⟨List.forall_mem_append.mpr ⟨List.forall_mem_append.mpr ⟨ek_192_0, ek_192_1⟩, ek_192_2⟩, ek_192_3⟩
theorem ek_193_0 : ∀ q ∈ tb_M_stand_0, eok 193 q = true := by decide +kernel
theorem ek_193_1 : ∀ q ∈ tb_M_stand_1, eok 193 q = true := by decide +kernel
theorem ek_193 : ∀ q ∈ tb_M_stand, eok 193 q = true := List.forall_mem_append.mpr ⟨ek_193_0, ek_193_1⟩
theorem ek_194_0 : ∀ q ∈ tb_M_lowest_0, eok 194 q = true := by decide +kernel
theorem ek_194 : ∀ q ∈ tb_M_lowest, eok 194 q = true := ek_194_0
theorem ek_195_0 : ∀ q ∈ tb_M_mix_0, eok 195 q = true := by decide +kernel
theorem ek_195_1 : ∀ q ∈ tb_M_mix_1, eok 195 q = true := by decide +kernel
theorem ek_195_2 : ∀ q ∈ tb_M_mix_2, eok 195 q = true := by decide +kernel
theorem ek_195 : ∀ q ∈ tb_M_mix, eok 195 q = true := List.forall_mem_append.mpr ⟨List.forall_mem_append.mpr ⟨ek_195_0, ek_195_1⟩, ek_195_2⟩
theorem ek_196_0 : ∀ q ∈ tb_M_hands_0, eok 196 q = true := by decide +kernel
theorem ek_196_1 : ∀ q ∈ tb_M_hands_1, eok 196 q = true := by decide +kernel
theorem ek_196_2 : ∀ q ∈ tb_M_hands_2, eok 196 q = true := by decide +kernel
theorem ek_196_3 : ∀ q ∈ tb_M_hands_3, eok 196 q = true := by decide +kernel
theorem ek_196 : ∀ q ∈ tb_M_hands, eok 196 q = true := List.forall_mem_append.mpr ⟨List.forall_mem_append.mpr ⟨List.forall_mem_append.mpr ⟨ek_196_0, ek_196_1⟩, ek_196_2⟩, ek_196_3⟩
theorem ek_197_0 : ∀ q ∈ tb_M_power_0, eok 197 q = true := by decide +kernel
theorem ek_197 : ∀ q ∈ tb_M_power, eok 197 q = true := ek_197_0
theorem ek_198_0 : ∀ q ∈ tb_M_truly_0, eok 198 q = true := by decide +kernel
theorem ek_198_1 : ∀ q ∈ tb_M_truly_1, eok 198 q = true := by decide +kernel
theorem ek_198 : ∀ q ∈ tb_M_truly, eok 198 q = true := List.forall_mem_append.mpr ⟨ek_198_0, ek_198_1⟩
theorem ek_199_0 : ∀ q ∈ tb_M_race_0, eok 199 q = true := by decide +kernel
theorem ek_199_1 : ∀ q ∈ tb_M_race_1, eok 199 q = true := by decide +kernel
theorem ek_199_2 : ∀ q ∈ tb_M_race_2, eok 199 q = true := by decide +kernel
theorem ek_199 : ∀ q ∈ tb_M_race, eok 199 q = true := List.forall_mem_append.mpr ⟨List.forall_mem_append.mpr ⟨ek_199_0, ek_199_1⟩, ek_199_2⟩
theorem ek_200_0 : ∀ q ∈ tb_M_seen_0, eok 200 q = true := by decide +kernel
theorem ek_200 : ∀ q ∈ tb_M_seen, eok 200 q = true := ek_200_0
theorem ek_201_0 : ∀ q ∈ tb_M_forget_0, eok 201 q = true := by decide +kernel
theorem ek_201 : ∀ q ∈ tb_M_forget, eok 201 q = true := ek_201_0
theorem ek_202_0 : ∀ q ∈ tb_M_sideAt_0, eok 202 q = true := by decide +kernel
theorem ek_202 : ∀ q ∈ tb_M_sideAt, eok 202 q = true := ek_202_0
theorem ek_203_0 : ∀ q ∈ tb_M_isFit_0, eok 203 q = true := by decide +kernel
theorem ek_203 : ∀ q ∈ tb_M_isFit, eok 203 q = true := ek_203_0
theorem ek_204_0 : ∀ q ∈ tb_M_fits_0, eok 204 q = true := by decide +kernel
theorem ek_204 : ∀ q ∈ tb_M_fits, eok 204 q = true := ek_204_0
theorem ek_205_0 : ∀ q ∈ tb_M_ask_0, eok 205 q = true := by decide +kernel
theorem ek_205_1 : ∀ q ∈ tb_M_ask_1, eok 205 q = true := by decide +kernel
theorem ek_205 : ∀ q ∈ tb_M_ask, eok 205 q = true := List.forall_mem_append.mpr ⟨ek_205_0, ek_205_1⟩
theorem ek_206_0 : ∀ q ∈ tb_M_year_0, eok 206 q = true := by decide +kernel
theorem ek_206_1 : ∀ q ∈ tb_M_year_1, eok 206 q = true := by decide +kernel
theorem ek_206_2 : ∀ q ∈ tb_M_year_2, eok 206 q = true := by decide +kernel
theorem ek_206 : ∀ q ∈ tb_M_year, eok 206 q = true := List.forall_mem_append.mpr ⟨List.forall_mem_append.mpr ⟨ek_206_0, ek_206_1⟩, ek_206_2⟩
theorem ek_207_0 : ∀ q ∈ tb_M_image_0, eok 207 q = true := by decide +kernel
theorem ek_207_1 : ∀ q ∈ tb_M_image_1, eok 207 q = true := by decide +kernel
theorem ek_207 : ∀ q ∈ tb_M_image, eok 207 q = true := List.forall_mem_append.mpr ⟨ek_207_0, ek_207_1⟩
theorem ek_208_0 : ∀ q ∈ tb_M_restore_0, eok 208 q = true := by decide +kernel
theorem ek_208_1 : ∀ q ∈ tb_M_restore_1, eok 208 q = true := by decide +kernel
theorem ek_208 : ∀ q ∈ tb_M_restore, eok 208 q = true := List.forall_mem_append.mpr ⟨ek_208_0, ek_208_1⟩
theorem ek_209_0 : ∀ q ∈ tb_M_told_0, eok 209 q = true := by decide +kernel
theorem ek_209_1 : ∀ q ∈ tb_M_told_1, eok 209 q = true := by decide +kernel
theorem ek_209 : ∀ q ∈ tb_M_told, eok 209 q = true := List.forall_mem_append.mpr ⟨ek_209_0, ek_209_1⟩
theorem ek_210_0 : ∀ q ∈ tb_Integer_bitCount_0, eok 210 q = true := by decide +kernel
theorem ek_210 : ∀ q ∈ tb_Integer_bitCount, eok 210 q = true := ek_210_0
theorem ek_211_0 : ∀ q ∈ tb_Math_floorMod_0, eok 211 q = true := by decide +kernel
theorem ek_211 : ∀ q ∈ tb_Math_floorMod, eok 211 q = true := ek_211_0
theorem ek_212_0 : ∀ q ∈ tb_Math_abs_0, eok 212 q = true := by decide +kernel
theorem ek_212 : ∀ q ∈ tb_Math_abs, eok 212 q = true := ek_212_0
theorem ek_213_0 : ∀ q ∈ tb_Math_max_0, eok 213 q = true := by decide +kernel
theorem ek_213 : ∀ q ∈ tb_Math_max, eok 213 q = true := ek_213_0
theorem ek_214_0 : ∀ q ∈ tb_Math_min_0, eok 214 q = true := by decide +kernel
theorem ek_214 : ∀ q ∈ tb_Math_min, eok 214 q = true := ek_214_0
theorem ek_215_0 : ∀ q ∈ tb_Law_law_0, eok 215 q = true := by decide +kernel
theorem ek_215_1 : ∀ q ∈ tb_Law_law_1, eok 215 q = true := by decide +kernel
theorem ek_215_2 : ∀ q ∈ tb_Law_law_2, eok 215 q = true := by decide +kernel
theorem ek_215_3 : ∀ q ∈ tb_Law_law_3, eok 215 q = true := by decide +kernel
theorem ek_215_4 : ∀ q ∈ tb_Law_law_4, eok 215 q = true := by decide +kernel
theorem ek_215_5 : ∀ q ∈ tb_Law_law_5, eok 215 q = true := by decide +kernel
theorem ek_215_6 : ∀ q ∈ tb_Law_law_6, eok 215 q = true := by decide +kernel
theorem ek_215_7 : ∀ q ∈ tb_Law_law_7, eok 215 q = true := by decide +kernel
theorem ek_215_8 : ∀ q ∈ tb_Law_law_8, eok 215 q = true := by decide +kernel
theorem ek_215_9 : ∀ q ∈ tb_Law_law_9, eok 215 q = true := by decide +kernel
theorem ek_215_10 : ∀ q ∈ tb_Law_law_10, eok 215 q = true := by decide +kernel
theorem ek_215_11 : ∀ q ∈ tb_Law_law_11, eok 215 q = true := by decide +kernel
theorem ek_215 : ∀ q ∈ tb_Law_law, eok 215 q = true := List.forall_mem_append.mpr ⟨List.forall_mem_append.mpr ⟨List.forall_mem_append.mpr ⟨List.forall_mem_append.mpr ⟨List.forall_mem_append.mpr ⟨List.forall_mem_append.mpr ⟨List.forall_mem_append.mpr ⟨List.forall_mem_append.mpr ⟨List.forall_mem_append.mpr ⟨List.forall_mem_append.mpr ⟨List.forall_mem_append.mpr ⟨ek_215_0, ek_215_1⟩, ek_215_2⟩, ek_215_3⟩, ek_215_4⟩, ek_215_5⟩, ek_215_6⟩, ek_215_7⟩, ek_215_8⟩, ek_215_9⟩, ek_215_10⟩, ek_215_11⟩
def allOK : Nat → List (List (Nat × EN)) → Prop
  | _, [] => True
  | k, t :: ts => (∀ q ∈ t, eok k q = true) ∧ allOK (k + 1) ts
theorem allOK_get : ∀ (L : List (List (Nat × EN))) (k i : Nat) (t : List (Nat × EN)), allOK k L → L[i]? = some t → ∀ q ∈ t, eok (k + i) q = true
  | [], _, i, t, _, h => by simp at h
  | t0 :: ts, k, 0, t, h, hi => by
    rw [List.getElem?_cons_zero] at hi
    cases hi
    exact h.1
  | t0 :: ts, k, i + 1, t, h, hi => by
    rw [List.getElem?_cons_succ] at hi
    have := allOK_get ts (k + 1) i t h.2 hi
    rwa [show k + 1 + i = k + (i + 1) by omega] at this
theorem lookup_mem {pc : Nat} {e : EN} : ∀ (l : List (Nat × EN)), l.lookup pc = some e → (pc, e) ∈ l
  | [], h => by simp at h
  | (a, b) :: l, h => by
    rw [List.lookup_cons] at h
    by_cases hq : pc = a
    · subst hq
      simp at h
      subst h
      exact List.mem_cons_self
    · have : (pc == a) = false := by simpa using hq
      rw [this] at h
      exact List.mem_cons_of_mem _ (lookup_mem l h)
theorem ag_0 (ts : List (List (Nat × EN))) (h : allOK 12 ts) : allOK 0 (tb_Chances_part :: tb_Chances_commonDivisor :: tb_Chances_mixed :: tb_Chances_mixedInOrder :: tb_Chances_isTheFirst :: tb_Chances_winsRace :: tb_Chances_power :: tb_Defence_init :: tb_Defence_letIn :: tb_Defence_slides :: tb_Defence_place :: tb_Defence_shotsPastOthers :: ts) := ⟨ek_0, ⟨ek_1, ⟨ek_2, ⟨ek_3, ⟨ek_4, ⟨ek_5, ⟨ek_6, ⟨ek_7, ⟨ek_8, ⟨ek_9, ⟨ek_10, ⟨ek_11, h⟩⟩⟩⟩⟩⟩⟩⟩⟩⟩⟩⟩
theorem ag_1 (ts : List (List (Nat × EN))) (h : allOK 24 ts) : allOK 12 (tb_Defence_tryKeeper :: tb_Evening_init :: tb_Evening_table :: tb_Evening_acts :: tb_Evening_stoppedAt :: tb_Evening_reason :: tb_Evening_firstGoal :: tb_Evening_play :: tb_Grasps_isRow :: tb_Grasps_fewest :: tb_Grasps_needed :: tb_Grasps_latest :: ts) := ⟨ek_12, ⟨ek_13, ⟨ek_14, ⟨ek_15, ⟨ek_16, ⟨ek_17, ⟨ek_18, ⟨ek_19, ⟨ek_20, ⟨ek_21, ⟨ek_22, ⟨ek_23, h⟩⟩⟩⟩⟩⟩⟩⟩⟩⟩⟩⟩
theorem ag_2 (ts : List (List (Nat × EN))) (h : allOK 36 ts) : allOK 24 (tb_Grasps_nextNeed :: tb_Image_init :: tb_Image_keep :: tb_Image_giveBack :: tb_Pad_init :: tb_Pad_size :: tb_Pad_add :: tb_Pad_clear :: tb_Pad_rewind :: tb_Pad_isReadOut :: tb_Pad_kind :: tb_Pad_rod :: ts) := ⟨ek_24, ⟨ek_25, ⟨ek_26, ⟨ek_27, ⟨ek_28, ⟨ek_29, ⟨ek_30, ⟨ek_31, ⟨ek_32, ⟨ek_33, ⟨ek_34, ⟨ek_35, h⟩⟩⟩⟩⟩⟩⟩⟩⟩⟩⟩⟩
theorem ag_3 (ts : List (List (Nat × EN))) (h : allOK 48 ts) : allOK 36 (tb_Pad_number :: tb_Pad_faultPlace :: tb_Pad_readAct :: tb_Pad_takesHandling :: tb_Pad_takesWay :: tb_Pad_takes :: tb_Pad_takesRod :: tb_Pad_takesDigit :: tb_Pad_nextSign :: tb_Passes_init :: tb_Passes_from :: tb_Passes_countTo :: ts) := ⟨ek_36, ⟨ek_37, ⟨ek_38, ⟨ek_39, ⟨ek_40, ⟨ek_41, ⟨ek_42, ⟨ek_43, ⟨ek_44, ⟨ek_45, ⟨ek_46, ⟨ek_47, h⟩⟩⟩⟩⟩⟩⟩⟩⟩⟩⟩⟩
theorem ag_4 (ts : List (List (Nat × EN))) (h : allOK 60 ts) : allOK 48 (tb_Passes_leads :: tb_Passes_firstFrom :: tb_Passes_receiver :: tb_Passes_ownOnly :: tb_Rods_isRod :: tb_Rods_isMan :: tb_Rods_sideOf :: tb_Rods_menOf :: tb_Rods_gapOf :: tb_Rods_lastSlide :: tb_Rods_isOf :: tb_Rods_keeperOf :: ts) := ⟨ek_48, ⟨ek_49, ⟨ek_50, ⟨ek_51, ⟨ek_52, ⟨ek_53, ⟨ek_54, ⟨ek_55, ⟨ek_56, ⟨ek_57, ⟨ek_58, ⟨ek_59, h⟩⟩⟩⟩⟩⟩⟩⟩⟩⟩⟩⟩
theorem ag_5 (ts : List (List (Nat × EN))) (h : allOK 72 ts) : allOK 60 (tb_Rods_backsOf :: tb_Rods_stepToGoalOf :: tb_Sights_init :: tb_Sights_size :: tb_Sights_add :: tb_Sights_clear :: tb_Sights_copyFrom :: tb_Sights_findRows :: tb_Sights_rowFound :: tb_Sights_bestShot :: tb_Sights_mostLeft :: tb_Sights_isRow :: ts) := ⟨ek_60, ⟨ek_61, ⟨ek_62, ⟨ek_63, ⟨ek_64, ⟨ek_65, ⟨ek_66, ⟨ek_67, ⟨ek_68, ⟨ek_69, ⟨ek_70, ⟨ek_71, h⟩⟩⟩⟩⟩⟩⟩⟩⟩⟩⟩⟩
theorem ag_6 (ts : List (List (Nat × EN))) (h : allOK 84 ts) : allOK 72 (tb_Sights_fitsAll :: tb_Sights_sideBy :: tb_Table_init :: tb_Table_copyFrom :: tb_Table_slideOf :: tb_Table_slideTo :: tb_Table_scoredBy :: tb_Table_setScored :: tb_Table_scoredInAll :: tb_Table_heldRods :: tb_Table_isHeld :: tb_Table_heldBy :: ts) := ⟨ek_72, ⟨ek_73, ⟨ek_74, ⟨ek_75, ⟨ek_76, ⟨ek_77, ⟨ek_78, ⟨ek_79, ⟨ek_80, ⟨ek_81, ⟨ek_82, ⟨ek_83, h⟩⟩⟩⟩⟩⟩⟩⟩⟩⟩⟩⟩
theorem ag_7 (ts : List (List (Nat × EN))) (h : allOK 96 ts) : allOK 84 (tb_Table_setHeld :: tb_Table_tenth :: tb_Table_isDead :: tb_Table_ballRod :: tb_Table_ballMan :: tb_Table_ballPlace :: tb_Table_loseBall :: tb_Table_giveBall :: tb_Table_placeOf :: tb_Table_covererOf :: tb_Table_nearestOf :: tb_Table_overFrom :: ts) := ⟨ek_84, ⟨ek_85, ⟨ek_86, ⟨ek_87, ⟨ek_88, ⟨ek_89, ⟨ek_90, ⟨ek_91, ⟨ek_92, ⟨ek_93, ⟨ek_94, ⟨ek_95, h⟩⟩⟩⟩⟩⟩⟩⟩⟩⟩⟩⟩
theorem ag_8 (ts : List (List (Nat × EN))) (h : allOK 108 ts) : allOK 96 (tb_Table_shotEnd :: tb_Table_reachesGoal :: tb_Table_shotsToGoal :: tb_Table_shotsPast :: tb_Table_bounced :: tb_Table_whyNot :: tb_Table_isPlayed :: tb_Table_isHeldWrongly :: tb_Table_isNextMan :: tb_Table_perform :: tb_Table_endShot :: tb_Table_tryDrawn :: ts) := ⟨ek_96, ⟨ek_97, ⟨ek_98, ⟨ek_99, ⟨ek_100, ⟨ek_101, ⟨ek_102, ⟨ek_103, ⟨ek_104, ⟨ek_105, ⟨ek_106, ⟨ek_107, h⟩⟩⟩⟩⟩⟩⟩⟩⟩⟩⟩⟩
theorem ag_9 (ts : List (List (Nat × EN))) (h : allOK 120 ts) : allOK 108 (tb_Table_drawnNumber :: tb_F_init :: tb_F_slide :: tb_F_hold :: tb_F_ball :: tb_F_goals :: tb_F_say :: tb_F_wipe :: tb_F_fault :: tb_F_judge :: tb_F_done :: tb_F_behind :: ts) := ⟨ek_108, ⟨ek_109, ⟨ek_110, ⟨ek_111, ⟨ek_112, ⟨ek_113, ⟨ek_114, ⟨ek_115, ⟨ek_116, ⟨ek_117, ⟨ek_118, ⟨ek_119, h⟩⟩⟩⟩⟩⟩⟩⟩⟩⟩⟩⟩
theorem ag_10 (ts : List (List (Nat × EN))) (h : allOK 132 ts) : allOK 120 (tb_F_then :: tb_F_ends :: tb_F_goesIn :: tb_F_path :: tb_F_stand :: tb_F_mix :: tb_F_hands :: tb_F_truly :: tb_F_race :: tb_F_seen :: tb_F_forget :: tb_F_fits :: ts) := ⟨ek_120, ⟨ek_121, ⟨ek_122, ⟨ek_123, ⟨ek_124, ⟨ek_125, ⟨ek_126, ⟨ek_127, ⟨ek_128, ⟨ek_129, ⟨ek_130, ⟨ek_131, h⟩⟩⟩⟩⟩⟩⟩⟩⟩⟩⟩⟩
theorem ag_11 (ts : List (List (Nat × EN))) (h : allOK 144 ts) : allOK 132 (tb_F_ask :: tb_F_year :: tb_F_image :: tb_F_restore :: tb_F_told :: tb_F_toldByNumber :: tb_F_playsThrough :: tb_F_imageOf :: tb_F_isWithin :: tb_F_isBit :: tb_F_isTenths :: tb_F_shotBit :: ts) := ⟨ek_132, ⟨ek_133, ⟨ek_134, ⟨ek_135, ⟨ek_136, ⟨ek_137, ⟨ek_138, ⟨ek_139, ⟨ek_140, ⟨ek_141, ⟨ek_142, ⟨ek_143, h⟩⟩⟩⟩⟩⟩⟩⟩⟩⟩⟩⟩
theorem ag_12 (ts : List (List (Nat × EN))) (h : allOK 156 ts) : allOK 144 (tb_F_copyRow :: tb_M_init :: tb_M_in :: tb_M_bits :: tb_M_isRod :: tb_M_sideOf :: tb_M_kindOf :: tb_M_menOf :: tb_M_apartOf :: tb_M_widest :: tb_M_isMan :: tb_M_held :: ts) := ⟨ek_144, ⟨ek_145, ⟨ek_146, ⟨ek_147, ⟨ek_148, ⟨ek_149, ⟨ek_150, ⟨ek_151, ⟨ek_152, ⟨ek_153, ⟨ek_154, ⟨ek_155, h⟩⟩⟩⟩⟩⟩⟩⟩⟩⟩⟩⟩
theorem ag_13 (ts : List (List (Nat × EN))) (h : allOK 168 ts) : allOK 156 (tb_M_slide :: tb_M_hold :: tb_M_ball :: tb_M_goals :: tb_M_say :: tb_M_wipe :: tb_M_step :: tb_M_faultOf :: tb_M_fault :: tb_M_standsAt :: tb_M_covers :: tb_M_shotBy :: ts) := ⟨ek_156, ⟨ek_157, ⟨ek_158, ⟨ek_159, ⟨ek_160, ⟨ek_161, ⟨ek_162, ⟨ek_163, ⟨ek_164, ⟨ek_165, ⟨ek_166, ⟨ek_167, h⟩⟩⟩⟩⟩⟩⟩⟩⟩⟩⟩⟩
theorem ag_14 (ts : List (List (Nat × EN))) (h : allOK 180 ts) : allOK 168 (tb_M_overBy :: tb_M_asNow :: tb_M_isOver :: tb_M_grasp :: tb_M_letGo :: tb_M_slideBy :: tb_M_whyNot :: tb_M_passTo :: tb_M_passOver :: tb_M_shoot :: tb_M_throwIn :: tb_M_endTenth :: ts) := ⟨ek_168, ⟨ek_169, ⟨ek_170, ⟨ek_171, ⟨ek_172, ⟨ek_173, ⟨ek_174, ⟨ek_175, ⟨ek_176, ⟨ek_177, ⟨ek_178, ⟨ek_179, h⟩⟩⟩⟩⟩⟩⟩⟩⟩⟩⟩⟩
theorem ag_15 (ts : List (List (Nat × EN))) (h : allOK 192 ts) : allOK 180 (tb_M_rodAct :: tb_M_nextAct :: tb_M_goEvenings :: tb_M_judge :: tb_M_barOfEvenings :: tb_M_done :: tb_M_behind :: tb_M_then :: tb_M_ends :: tb_M_allIn :: tb_M_goesIn :: tb_M_passes :: ts) := ⟨ek_180, ⟨ek_181, ⟨ek_182, ⟨ek_183, ⟨ek_184, ⟨ek_185, ⟨ek_186, ⟨ek_187, ⟨ek_188, ⟨ek_189, ⟨ek_190, ⟨ek_191, h⟩⟩⟩⟩⟩⟩⟩⟩⟩⟩⟩⟩
theorem ag_16 (ts : List (List (Nat × EN))) (h : allOK 204 ts) : allOK 192 (tb_M_path :: tb_M_stand :: tb_M_lowest :: tb_M_mix :: tb_M_hands :: tb_M_power :: tb_M_truly :: tb_M_race :: tb_M_seen :: tb_M_forget :: tb_M_sideAt :: tb_M_isFit :: ts) := ⟨ek_192, ⟨ek_193, ⟨ek_194, ⟨ek_195, ⟨ek_196, ⟨ek_197, ⟨ek_198, ⟨ek_199, ⟨ek_200, ⟨ek_201, ⟨ek_202, ⟨ek_203, h⟩⟩⟩⟩⟩⟩⟩⟩⟩⟩⟩⟩
theorem ag_17 (ts : List (List (Nat × EN))) (h : allOK 216 ts) : allOK 204 (tb_M_fits :: tb_M_ask :: tb_M_year :: tb_M_image :: tb_M_restore :: tb_M_told :: tb_Integer_bitCount :: tb_Math_floorMod :: tb_Math_abs :: tb_Math_max :: tb_Math_min :: tb_Law_law :: ts) := ⟨ek_204, ⟨ek_205, ⟨ek_206, ⟨ek_207, ⟨ek_208, ⟨ek_209, ⟨ek_210, ⟨ek_211, ⟨ek_212, ⟨ek_213, ⟨ek_214, ⟨ek_215, h⟩⟩⟩⟩⟩⟩⟩⟩⟩⟩⟩⟩
set_option maxRecDepth 100000 in
theorem all_OK : allOK 0 TBL := (ag_0 _ (ag_1 _ (ag_2 _ (ag_3 _ (ag_4 _ (ag_5 _ (ag_6 _ (ag_7 _ (ag_8 _ (ag_9 _ (ag_10 _ (ag_11 _ (ag_12 _ (ag_13 _ (ag_14 _ (ag_15 _ (ag_16 _ (ag_17 _ trivial))))))))))))))))))
theorem code_ok {m pc : Nat} {e : EN} (h : code_ m pc = some e) : eok m (pc, e) = true := by
  unfold code_ at h
  cases ht : TBL[m]? with
  | none => rw [ht] at h; simp at h
  | some t =>
    rw [ht] at h
    have h1 := allOK_get TBL 0 m t all_OK ht (pc, e) (lookup_mem _ h)
    rwa [Nat.zero_add] at h1
