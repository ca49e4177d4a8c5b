-- the words that the system needs, and where they stand in the Statement's tables
def cnm (o : Nat) : String := (CN[o]?).getD ""
def fwC (o ix a b : Nat) : Jvm.Cond := match CL[a]? with
  | some (_, T, _) => .fieldLink (cnm o) ix (T b).1 (T b).2.1 (T b).2.2.1
  | none => .initialized ""
def kwC (q : Nat × Nat × Nat × Nat) : List Jvm.Cond := (if q.2.2.1 = 0 ∨ q.2.2.1 = 1 ∨ q.2.2.1 = 2 then [.methodLink (cnm q.1) q.2.1 (yM q.2.2.2)] else []) ++ ((if q.2.2.1 = 0 ∨ q.2.2.1 = 3 then [.static (yM q.2.2.2)] else []) ++ ((if q.2.2.1 = 1 ∨ q.2.2.1 = 2 ∨ q.2.2.1 = 4 then [.instanceMethod (yM q.2.2.2)] else []) ++ (if q.2.2.1 = 1 then [.selects (yM q.2.2.2).cls (yM q.2.2.2) (yM q.2.2.2)] else [])))
def cdC (i : MIt) : Jvm.Cond := .code i.2.1 i.2.2.1 i.2.2.2.1 i.2.2.2.2.1
def nwC (q : Nat × Nat × Nat) : List Jvm.Cond := [.classLink (cnm q.1) q.2.1 (cnm q.2.2), .instantiable (cnm q.2.2) (nfC q.2.2)]
def SOW : String := "FourRods$Rods"
def swC (q : Nat × Nat × Nat) : Jvm.Cond := .fieldLink (cnm q.1) q.2.1 SOW ((SNm[q.2.2]?).getD "") "[I"
def A_code : List Jvm.Cond := MIc.map cdC
def A_init : List Jvm.Cond := CN.map Jvm.Cond.initialized
def A_fld : List Jvm.Cond := FT.map (fun q => fwC q.1 q.2.1 q.2.2.1 q.2.2.2)
def A_lay : List Jvm.Cond := CL.flatMap (fun q => u_ws q.1 q.2.1 q.2.2)
def A_call : List Jvm.Cond := KT.flatMap kwC
def A_new : List Jvm.Cond := NT.flatMap nwC
def A_con : List Jvm.Cond := CT.map (fun q => .constant (cnm q.1) q.2.1 (Int32.ofInt q.2.2))
def A_conL : List Jvm.Cond := LT.map (fun q => .constantLong (cnm q.1) q.2.1 (Int64.ofInt q.2.2))
def A_sta : List Jvm.Cond := ST.map swC
def A_arr : List Jvm.Cond := [.arrayClass .int, .arrayClass .long, .arrayClass .boolean]
def A_obj : List Jvm.Cond := OT.map (fun q => .methodLink (cnm q.1) q.2 Lib.objectInit)
def A_obj2 : List Jvm.Cond := [.instanceMethod Lib.objectInit, .code Lib.objectInit ⟨#[0xb1]⟩ 1 none]
theorem in_of (ws : List Jvm.Cond) (ps : List Nat) (h : ws = ps.filterMap (fun i => lw_tbl[i]?)) : ∀ w ∈ ws, w ∈ lw_tbl := by
  intro w hw
  rw [h] at hw
  obtain ⟨i, -, hi⟩ := List.mem_filterMap.mp hw
  exact List.mem_of_getElem? hi
def AL2 : List Jvm.Cond := A_init ++ (A_fld ++ (A_lay ++ (A_call ++ (A_new ++ (A_con ++ (A_conL ++ (A_sta ++ (A_arr ++ (A_obj ++ A_obj2)))))))))
def ALL : List Jvm.Cond := A_code ++ AL2
theorem al_0 : ∀ w ∈ (AL2.drop 0).take 25, w ∈ lw_tbl := in_of _ [48, 46, 50, 45, 47, 49, 43, 42, 51, 54, 55, 44, 41, 53, 52, 170, 171, 172, 173, 136, 137, 138, 139, 140, 215] (by decide +kernel)
theorem al_1 : ∀ w ∈ (AL2.drop 25).take 25, w ∈ lw_tbl := in_of _ [216, 217, 109, 110, 111, 112, 113, 114, 158, 189, 190, 191, 192, 193, 83, 84, 86, 87, 85, 88, 225, 226, 227, 228, 229] (by decide +kernel)
theorem al_2 : ∀ w ∈ (AL2.drop 50).take 25, w ∈ lw_tbl := in_of _ [230, 231, 232, 233, 851, 852, 854, 856, 863, 864, 865, 866, 867, 868, 855, 857, 858, 859, 862, 861, 860, 853, 174, 176, 178] (by decide +kernel)
theorem al_3 : ∀ w ∈ (AL2.drop 75).take 25, w ∈ lw_tbl := in_of _ [180, 141, 143, 145, 147, 149, 218, 220, 222, 115, 117, 119, 121, 123, 125, 159, 194, 196, 198, 200, 202, 89, 91, 93, 95] (by decide +kernel)
theorem al_4 : ∀ w ∈ (AL2.drop 100).take 25, w ∈ lw_tbl := in_of _ [97, 99, 234, 236, 238, 240, 242, 244, 246, 248, 250, 869, 871, 873, 875, 877, 879, 881, 883, 885, 887, 889, 891, 893, 895] (by decide +kernel)
theorem al_5 : ∀ w ∈ (AL2.drop 125).take 25, w ∈ lw_tbl := in_of _ [897, 899, 901, 903, 678, 679, 666, 667, 669, 670, 672, 673, 675, 676, 709, 710, 169, 67, 612, 401, 402, 613, 542, 543, 614] (by decide +kernel)
theorem al_6 : ∀ w ∈ (AL2.drop 150).take 25, w ∈ lw_tbl := in_of _ [277, 615, 500, 616, 617, 619, 621, 12, 635, 71, 636, 269, 270, 631, 632, 633, 637, 639, 13, 623, 624, 625, 629, 487, 630] (by decide +kernel)
theorem al_7 : ∀ w ∈ (AL2.drop 175).take 25, w ∈ lw_tbl := in_of _ [453, 641, 642, 135, 67, 400, 401, 402, 407, 355, 356, 408, 359, 360, 409, 363, 364, 410, 411, 412, 414, 415, 416, 418, 419] (by decide +kernel)
theorem al_8 : ∀ w ∈ (AL2.drop 200).take 25, w ∈ lw_tbl := in_of _ [420, 422, 423, 424, 471, 472, 473, 475, 476, 477, 692, 693, 695, 642, 696, 697, 699, 700, 212, 67, 186, 803, 401, 402, 804] (by decide +kernel)
theorem al_9 : ∀ w ∈ (AL2.drop 225).take 25, w ∈ lw_tbl := in_of _ [805, 806, 354, 355, 356, 358, 359, 360, 362, 363, 364, 366, 368, 0, 374, 376, 2, 379, 381, 3, 384, 386, 4, 388, 390] (by decide +kernel)
theorem al_10 : ∀ w ∈ (AL2.drop 250).take 25, w ∈ lw_tbl := in_of _ [5, 370, 372, 1, 383, 258, 262, 582, 584, 11, 586, 587, 595, 596, 597, 589, 305, 590, 449, 450, 591, 592, 594, 277, 73] (by decide +kernel)
theorem al_11 : ∀ w ∈ (AL2.drop 275).take 25, w ∈ lw_tbl := in_of _ [74, 78, 79, 455, 258, 456, 277, 405, 748, 749, 751, 753, 14, 770, 771, 772, 755, 756, 774, 673, 70, 71, 405, 426, 319] (by decide +kernel)
theorem al_12 : ∀ w ∈ (AL2.drop 300).take 25, w ∈ lw_tbl := in_of _ [320, 285, 258, 290, 277, 291, 282, 283, 430, 431, 432, 457, 458, 459, 439, 265, 266, 461, 79, 466, 74, 445, 446, 452, 453] (by decide +kernel)
theorem al_13 : ∀ w ∈ (AL2.drop 325).take 25, w ∈ lw_tbl := in_of _ [462, 463, 464, 467, 468, 469, 486, 487, 489, 490, 495, 497, 8, 499, 500, 627, 550, 551, 572, 492, 493, 427, 428, 434, 436] (by decide +kernel)
theorem al_14 : ∀ w ∈ (AL2.drop 350).take 25, w ∈ lw_tbl := in_of _ [6, 438, 287, 288, 440, 305, 441, 443, 7, 448, 449, 450, 479, 293, 294, 480, 269, 270, 481, 308, 309, 482, 483, 484, 502] (by decide +kernel)
theorem al_15 : ∀ w ∈ (AL2.drop 375).take 25, w ∈ lw_tbl := in_of _ [504, 9, 506, 323, 324, 507, 301, 302, 785, 786, 788, 423, 424, 789, 476, 477, 66, 67, 106, 131, 155, 165, 186, 208, 257] (by decide +kernel)
theorem al_16 : ∀ w ∈ (AL2.drop 400).take 25, w ∈ lw_tbl := in_of _ [258, 260, 71, 261, 262, 264, 265, 266, 268, 269, 270, 276, 277, 281, 282, 283, 286, 287, 288, 292, 293, 294, 300, 301, 302] (by decide +kernel)
theorem al_17 : ∀ w ∈ (AL2.drop 425).take 25, w ∈ lw_tbl := in_of _ [304, 305, 307, 308, 309, 315, 316, 318, 319, 320, 322, 323, 324, 330, 331, 332, 334, 335, 336, 342, 343, 344, 350, 351, 352] (by decide +kernel)
theorem al_18 : ∀ w ∈ (AL2.drop 450).take 25, w ∈ lw_tbl := in_of _ [396, 397, 398, 508, 509, 510, 512, 513, 514, 520, 522, 10, 524, 525, 526, 528, 401, 402, 529, 530, 531, 541, 542, 543, 545] (by decide +kernel)
theorem al_19 : ∀ w ∈ (AL2.drop 475).take 25, w ∈ lw_tbl := in_of _ [546, 547, 549, 550, 551, 553, 554, 555, 557, 558, 559, 565, 431, 432, 566, 483, 484, 571, 572, 578, 579, 580, 599, 596, 597] (by decide +kernel)
theorem al_20 : ∀ w ∈ (AL2.drop 500).take 25, w ∈ lw_tbl := in_of _ [600, 601, 602, 608, 609, 610, 647, 648, 649, 651, 652, 653, 659, 660, 663, 664, 686, 687, 689, 690, 706, 707, 717, 718, 724] (by decide +kernel)
theorem al_21 : ∀ w ∈ (AL2.drop 525).take 25, w ∈ lw_tbl := in_of _ [725, 726, 728, 729, 730, 736, 737, 738, 744, 745, 746, 758, 759, 760, 766, 767, 768, 775, 771, 772, 781, 782, 783, 790, 472] (by decide +kernel)
theorem al_22 : ∀ w ∈ (AL2.drop 550).take 25, w ∈ lw_tbl := in_of _ [473, 795, 797, 15, 799, 800, 801, 813, 814, 815, 821, 822, 823, 825, 827, 16, 829, 458, 459, 836, 837, 915, 916, 845, 846] (by decide +kernel)
theorem al_23 : ∀ w ∈ (AL2.drop 575).take 25, w ∈ lw_tbl := in_of _ [842, 843, 839, 840, 848, 849, 912, 913, 922, 924, 17, 926, 928, 18, 934, 935, 957, 958, 953, 955, 19, 996, 998, 28, 1000] (by decide +kernel)
theorem al_24 : ∀ w ∈ (AL2.drop 600).take 25, w ∈ lw_tbl := in_of _ [1002, 29, 976, 978, 23, 984, 986, 25, 992, 994, 27, 1008, 1010, 31, 1020, 1022, 34, 1024, 1026, 35, 1028, 1030, 36, 972, 974] (by decide +kernel)
theorem al_25 : ∀ w ∈ (AL2.drop 625).take 25, w ∈ lw_tbl := in_of _ [22, 980, 982, 24, 988, 990, 26, 1004, 1006, 30, 1012, 1014, 32, 1016, 1018, 33, 968, 970, 21, 964, 966, 20, 1036, 1038, 37] (by decide +kernel)
theorem al_26 : ∀ w ∈ (AL2.drop 650).take 25, w ∈ lw_tbl := in_of _ [1056, 1058, 38, 1065, 1067, 39, 1073, 1074, 1082, 1083, 1093, 1094, 1117, 1118, 1113, 1115, 40, 58, 59, 832, 833, 253, 254, 255, 908] (by decide +kernel)
theorem al_27 : ∀ w ∈ (AL2.drop 675).take 25, w ∈ lw_tbl := in_of _ [909, 910, 272, 273, 274, 918, 919, 920, 296, 297, 298, 930, 931, 932, 311, 312, 313, 937, 938, 939, 326, 327, 328, 941, 942] (by decide +kernel)
theorem al_28 : ∀ w ∈ (AL2.drop 700).take 25, w ∈ lw_tbl := in_of _ [943, 338, 339, 340, 945, 946, 947, 346, 347, 348, 949, 950, 951, 392, 393, 394, 960, 961, 962, 516, 517, 518, 1032, 1033, 1034] (by decide +kernel)
theorem al_29 : ∀ w ∈ (AL2.drop 725).take 25, w ∈ lw_tbl := in_of _ [533, 534, 535, 1040, 1041, 1042, 537, 538, 539, 1044, 1045, 1046, 561, 562, 563, 1048, 1049, 1050, 567, 568, 569, 1052, 1053, 1054, 574] (by decide +kernel)
theorem al_30 : ∀ w ∈ (AL2.drop 750).take 25, w ∈ lw_tbl := in_of _ [575, 576, 1060, 1061, 1062, 604, 605, 606, 1069, 1070, 1071, 655, 656, 657, 1076, 1077, 1078, 682, 683, 684, 1085, 1086, 1087, 702, 703] (by decide +kernel)
theorem al_31 : ∀ w ∈ (AL2.drop 775).take 25, w ∈ lw_tbl := in_of _ [704, 1089, 1090, 1091, 712, 713, 714, 1096, 1097, 1098, 720, 721, 722, 1101, 1102, 1103, 732, 733, 734, 1105, 1106, 1107, 740, 741, 742] (by decide +kernel)
theorem al_32 : ∀ w ∈ (AL2.drop 800).take 25, w ∈ lw_tbl := in_of _ [1109, 1110, 1111, 762, 763, 764, 1120, 1121, 1122, 776, 777, 778, 1124, 1125, 1126, 791, 792, 793, 1129, 1130, 1131, 809, 810, 811, 1133] (by decide +kernel)
theorem al_33 : ∀ w ∈ (AL2.drop 825).take 25, w ∈ lw_tbl := in_of _ [1134, 1135, 817, 818, 819, 1137, 1138, 1139, 168, 65, 134, 65, 211, 65, 213, 184, 64, 65, 103, 104, 128, 129, 152, 153, 162] (by decide +kernel)
theorem al_34 : ∀ w ∈ (AL2.drop 850).take 25, w ∈ lw_tbl := in_of _ [163, 183, 184, 205, 206, 56, 57, 830, 831, 780, 1064, 1128, 644, 645, 646, 681, 662, 716, 1080, 1081, 1100, 279, 76, 81, 102] (by decide +kernel)
theorem al_35 : ∀ w ∈ (AL2.drop 875).take 25, w ∈ lw_tbl := in_of _ [906, 907, 167, 133, 210, 108, 157, 188, 69, 61, 835, 62, 63] (by decide +kernel)
theorem al_len : AL2.length = 888 := by decide +kernel
theorem al_all (k : Nat) (hk : k < 36) : ∀ w ∈ (AL2.drop (25 * k)).take 25, w ∈ lw_tbl := by
  match k, hk with
  | 0, _ => exact al_0
  | 1, _ => exact al_1
  | 2, _ => exact al_2
  | 3, _ => exact al_3
  | 4, _ => exact al_4
  | 5, _ => exact al_5
  | 6, _ => exact al_6
  | 7, _ => exact al_7
  | 8, _ => exact al_8
  | 9, _ => exact al_9
  | 10, _ => exact al_10
  | 11, _ => exact al_11
  | 12, _ => exact al_12
  | 13, _ => exact al_13
  | 14, _ => exact al_14
  | 15, _ => exact al_15
  | 16, _ => exact al_16
  | 17, _ => exact al_17
  | 18, _ => exact al_18
  | 19, _ => exact al_19
  | 20, _ => exact al_20
  | 21, _ => exact al_21
  | 22, _ => exact al_22
  | 23, _ => exact al_23
  | 24, _ => exact al_24
  | 25, _ => exact al_25
  | 26, _ => exact al_26
  | 27, _ => exact al_27
  | 28, _ => exact al_28
  | 29, _ => exact al_29
  | 30, _ => exact al_30
  | 31, _ => exact al_31
  | 32, _ => exact al_32
  | 33, _ => exact al_33
  | 34, _ => exact al_34
  | 35, _ => exact al_35
  | n + 36, h => exact absurd h (by omega)
theorem AL2_in : ∀ w ∈ AL2, w ∈ lw_tbl := by
  intro w h
  obtain ⟨i, hi⟩ := List.getElem?_of_mem h
  have hl : i < AL2.length := (List.getElem?_eq_some_iff.mp hi).1
  rw [al_len] at hl
  refine al_all (i / 25) (by omega) w (List.mem_of_getElem? (i := i % 25) ?_)
  rw [List.getElem?_take_of_lt (by omega), List.getElem?_drop, show 25 * (i / 25) + i % 25 = i by omega]
  exact hi
theorem tbl_1 (w : Jvm.Cond) (h : w ∈ tables_1_1) : w ∈ lw_tbl := List.mem_append_right _ (by unfold tables_1; exact List.mem_append_left _ h)
theorem tbl_2 (w : Jvm.Cond) (h : w ∈ tables_1_2) : w ∈ lw_tbl := List.mem_append_right _ (by unfold tables_1; exact List.mem_append_right _ (List.mem_append_left _ h))
theorem tbl_3 (w : Jvm.Cond) (h : w ∈ tables_1_3) : w ∈ lw_tbl := List.mem_append_right _ (by unfold tables_1; exact List.mem_append_right _ (List.mem_append_right _ (List.mem_append_left _ h)))
theorem tbl_4 (w : Jvm.Cond) (h : w ∈ tables_1_4) : w ∈ lw_tbl := List.mem_append_right _ (by unfold tables_1; exact List.mem_append_right _ (List.mem_append_right _ (List.mem_append_right _ (List.mem_append_left _ h))))
theorem tbl_5 (w : Jvm.Cond) (h : w ∈ tables_1_5) : w ∈ lw_tbl := List.mem_append_right _ (by unfold tables_1; exact List.mem_append_right _ (List.mem_append_right _ (List.mem_append_right _ (List.mem_append_right _ (h)))))
theorem cw_0 : cdC mi_Chances_part ∈ lw_tbl := tbl_3 _ (List.mem_of_getElem? (i := 156) rfl)
theorem cw_1 : cdC mi_Chances_commonDivisor ∈ lw_tbl := tbl_3 _ (List.mem_of_getElem? (i := 159) rfl)
theorem cw_2 : cdC mi_Chances_mixed ∈ lw_tbl := tbl_3 _ (List.mem_of_getElem? (i := 144) rfl)
theorem cw_3 : cdC mi_Chances_mixedInOrder ∈ lw_tbl := tbl_3 _ (List.mem_of_getElem? (i := 147) rfl)
theorem cw_4 : cdC mi_Chances_isTheFirst ∈ lw_tbl := tbl_3 _ (List.mem_of_getElem? (i := 187) rfl)
theorem cw_5 : cdC mi_Chances_winsRace ∈ lw_tbl := tbl_3 _ (List.mem_of_getElem? (i := 198) rfl)
theorem cw_6 : cdC mi_Chances_power ∈ lw_tbl := tbl_3 _ (List.mem_of_getElem? (i := 190) rfl)
theorem cw_7 : cdC mi_Defence_init ∈ lw_tbl := tbl_1 _ (List.mem_of_getElem? (i := 125) rfl)
theorem cw_8 : cdC mi_Defence_letIn ∈ lw_tbl := tbl_3 _ (List.mem_of_getElem? (i := 129) rfl)
theorem cw_9 : cdC mi_Defence_slides ∈ lw_tbl := tbl_3 _ (List.mem_of_getElem? (i := 133) rfl)
theorem cw_10 : cdC mi_Defence_place ∈ lw_tbl := tbl_3 _ (List.mem_of_getElem? (i := 90) rfl)
theorem cw_11 : cdC mi_Defence_shotsPastOthers ∈ lw_tbl := tbl_3 _ (List.mem_of_getElem? (i := 101) rfl)
theorem cw_12 : cdC mi_Defence_tryKeeper ∈ lw_tbl := tbl_3 _ (List.mem_of_getElem? (i := 119) rfl)
theorem cw_13 : cdC mi_Evening_init ∈ lw_tbl := tbl_1 _ (List.mem_of_getElem? (i := 91) rfl)
theorem cw_14 : cdC mi_Evening_table ∈ lw_tbl := tbl_3 _ (List.mem_of_getElem? (i := 6) rfl)
theorem cw_15 : cdC mi_Evening_acts ∈ lw_tbl := tbl_3 _ (List.mem_of_getElem? (i := 11) rfl)
theorem cw_16 : cdC mi_Evening_stoppedAt ∈ lw_tbl := tbl_2 _ (List.mem_of_getElem? (i := 230) rfl)
theorem cw_17 : cdC mi_Evening_reason ∈ lw_tbl := tbl_2 _ (List.mem_of_getElem? (i := 234) rfl)
theorem cw_18 : cdC mi_Evening_firstGoal ∈ lw_tbl := tbl_3 _ (List.mem_of_getElem? (i := 39) rfl)
theorem cw_19 : cdC mi_Evening_play ∈ lw_tbl := tbl_2 _ (List.mem_of_getElem? (i := 118) rfl)
theorem cw_20 : cdC mi_Grasps_isRow ∈ lw_tbl := tbl_3 _ (List.mem_of_getElem? (i := 167) rfl)
theorem cw_21 : cdC mi_Grasps_fewest ∈ lw_tbl := tbl_3 _ (List.mem_of_getElem? (i := 170) rfl)
theorem cw_22 : cdC mi_Grasps_needed ∈ lw_tbl := tbl_3 _ (List.mem_of_getElem? (i := 173) rfl)
theorem cw_23 : cdC mi_Grasps_latest ∈ lw_tbl := tbl_3 _ (List.mem_of_getElem? (i := 177) rfl)
theorem cw_24 : cdC mi_Grasps_nextNeed ∈ lw_tbl := tbl_3 _ (List.mem_of_getElem? (i := 180) rfl)
theorem cw_25 : cdC mi_Image_init ∈ lw_tbl := tbl_1 _ (List.mem_of_getElem? (i := 168) rfl)
theorem cw_26 : cdC mi_Image_keep ∈ lw_tbl := tbl_4 _ (List.mem_of_getElem? (i := 41) rfl)
theorem cw_27 : cdC mi_Image_giveBack ∈ lw_tbl := tbl_4 _ (List.mem_of_getElem? (i := 55) rfl)
theorem cw_28 : cdC mi_Pad_init ∈ lw_tbl := tbl_1 _ (List.mem_of_getElem? (i := 66) rfl)
theorem cw_29 : cdC mi_Pad_size ∈ lw_tbl := tbl_2 _ (List.mem_of_getElem? (i := 56) rfl)
theorem cw_30 : cdC mi_Pad_add ∈ lw_tbl := tbl_2 _ (List.mem_of_getElem? (i := 52) rfl)
theorem cw_31 : cdC mi_Pad_clear ∈ lw_tbl := tbl_2 _ (List.mem_of_getElem? (i := 64) rfl)
theorem cw_32 : cdC mi_Pad_rewind ∈ lw_tbl := tbl_2 _ (List.mem_of_getElem? (i := 76) rfl)
theorem cw_33 : cdC mi_Pad_isReadOut ∈ lw_tbl := tbl_2 _ (List.mem_of_getElem? (i := 80) rfl)
theorem cw_34 : cdC mi_Pad_kind ∈ lw_tbl := tbl_2 _ (List.mem_of_getElem? (i := 132) rfl)
theorem cw_35 : cdC mi_Pad_rod ∈ lw_tbl := tbl_2 _ (List.mem_of_getElem? (i := 136) rfl)
theorem cw_36 : cdC mi_Pad_number ∈ lw_tbl := tbl_2 _ (List.mem_of_getElem? (i := 140) rfl)
theorem cw_37 : cdC mi_Pad_faultPlace ∈ lw_tbl := tbl_2 _ (List.mem_of_getElem? (i := 72) rfl)
theorem cw_38 : cdC mi_Pad_readAct ∈ lw_tbl := tbl_2 _ (List.mem_of_getElem? (i := 84) rfl)
theorem cw_39 : cdC mi_Pad_takesHandling ∈ lw_tbl := tbl_2 _ (List.mem_of_getElem? (i := 110) rfl)
theorem cw_40 : cdC mi_Pad_takesWay ∈ lw_tbl := tbl_2 _ (List.mem_of_getElem? (i := 106) rfl)
theorem cw_41 : cdC mi_Pad_takes ∈ lw_tbl := tbl_2 _ (List.mem_of_getElem? (i := 88) rfl)
theorem cw_42 : cdC mi_Pad_takesRod ∈ lw_tbl := tbl_2 _ (List.mem_of_getElem? (i := 101) rfl)
theorem cw_43 : cdC mi_Pad_takesDigit ∈ lw_tbl := tbl_2 _ (List.mem_of_getElem? (i := 96) rfl)
theorem cw_44 : cdC mi_Pad_nextSign ∈ lw_tbl := tbl_2 _ (List.mem_of_getElem? (i := 92) rfl)
theorem cw_45 : cdC mi_Passes_init ∈ lw_tbl := tbl_1 _ (List.mem_of_getElem? (i := 115) rfl)
theorem cw_46 : cdC mi_Passes_from ∈ lw_tbl := tbl_3 _ (List.mem_of_getElem? (i := 77) rfl)
theorem cw_47 : cdC mi_Passes_countTo ∈ lw_tbl := tbl_3 _ (List.mem_of_getElem? (i := 60) rfl)
theorem cw_48 : cdC mi_Passes_leads ∈ lw_tbl := tbl_3 _ (List.mem_of_getElem? (i := 64) rfl)
theorem cw_49 : cdC mi_Passes_firstFrom ∈ lw_tbl := tbl_3 _ (List.mem_of_getElem? (i := 82) rfl)
theorem cw_50 : cdC mi_Passes_receiver ∈ lw_tbl := tbl_3 _ (List.mem_of_getElem? (i := 67) rfl)
theorem cw_51 : cdC mi_Passes_ownOnly ∈ lw_tbl := tbl_3 _ (List.mem_of_getElem? (i := 72) rfl)
theorem cw_52 : cdC mi_Rods_isRod ∈ lw_tbl := tbl_1 _ (List.mem_of_getElem? (i := 218) rfl)
theorem cw_53 : cdC mi_Rods_isMan ∈ lw_tbl := tbl_2 _ (List.mem_of_getElem? (i := 25) rfl)
theorem cw_54 : cdC mi_Rods_sideOf ∈ lw_tbl := tbl_1 _ (List.mem_of_getElem? (i := 237) rfl)
theorem cw_55 : cdC mi_Rods_menOf ∈ lw_tbl := tbl_1 _ (List.mem_of_getElem? (i := 34) rfl)
theorem cw_56 : cdC mi_Rods_gapOf ∈ lw_tbl := tbl_1 _ (List.mem_of_getElem? (i := 39) rfl)
theorem cw_57 : cdC mi_Rods_lastSlide ∈ lw_tbl := tbl_1 _ (List.mem_of_getElem? (i := 31) rfl)
theorem cw_58 : cdC mi_Rods_isOf ∈ lw_tbl := tbl_2 _ (List.mem_of_getElem? (i := 173) rfl)
theorem cw_59 : cdC mi_Rods_keeperOf ∈ lw_tbl := tbl_2 _ (List.mem_of_getElem? (i := 220) rfl)
theorem cw_60 : cdC mi_Rods_backsOf ∈ lw_tbl := tbl_3 _ (List.mem_of_getElem? (i := 97) rfl)
theorem cw_61 : cdC mi_Rods_stepToGoalOf ∈ lw_tbl := tbl_2 _ (List.mem_of_getElem? (i := 207) rfl)
theorem cw_62 : cdC mi_Sights_init ∈ lw_tbl := tbl_1 _ (List.mem_of_getElem? (i := 146) rfl)
theorem cw_63 : cdC mi_Sights_size ∈ lw_tbl := tbl_3 _ (List.mem_of_getElem? (i := 210) rfl)
theorem cw_64 : cdC mi_Sights_add ∈ lw_tbl := tbl_3 _ (List.mem_of_getElem? (i := 206) rfl)
theorem cw_65 : cdC mi_Sights_clear ∈ lw_tbl := tbl_3 _ (List.mem_of_getElem? (i := 218) rfl)
theorem cw_66 : cdC mi_Sights_copyFrom ∈ lw_tbl := tbl_4 _ (List.mem_of_getElem? (i := 46) rfl)
theorem cw_67 : cdC mi_Sights_findRows ∈ lw_tbl := tbl_3 _ (List.mem_of_getElem? (i := 226) rfl)
theorem cw_68 : cdC mi_Sights_rowFound ∈ lw_tbl := tbl_4 _ (List.mem_of_getElem? (i := 0) rfl)
theorem cw_69 : cdC mi_Sights_bestShot ∈ lw_tbl := tbl_4 _ (List.mem_of_getElem? (i := 8) rfl)
theorem cw_70 : cdC mi_Sights_mostLeft ∈ lw_tbl := tbl_4 _ (List.mem_of_getElem? (i := 12) rfl)
theorem cw_71 : cdC mi_Sights_isRow ∈ lw_tbl := tbl_3 _ (List.mem_of_getElem? (i := 229) rfl)
theorem cw_72 : cdC mi_Sights_fitsAll ∈ lw_tbl := tbl_3 _ (List.mem_of_getElem? (i := 233) rfl)
theorem cw_73 : cdC mi_Sights_sideBy ∈ lw_tbl := tbl_3 _ (List.mem_of_getElem? (i := 236) rfl)
theorem cw_74 : cdC mi_Table_init ∈ lw_tbl := tbl_1 _ (List.mem_of_getElem? (i := 27) rfl)
theorem cw_75 : cdC mi_Table_copyFrom ∈ lw_tbl := tbl_2 _ (List.mem_of_getElem? (i := 122) rfl)
theorem cw_76 : cdC mi_Table_slideOf ∈ lw_tbl := tbl_1 _ (List.mem_of_getElem? (i := 226) rfl)
theorem cw_77 : cdC mi_Table_slideTo ∈ lw_tbl := tbl_1 _ (List.mem_of_getElem? (i := 230) rfl)
theorem cw_78 : cdC mi_Table_scoredBy ∈ lw_tbl := tbl_2 _ (List.mem_of_getElem? (i := 40) rfl)
theorem cw_79 : cdC mi_Table_setScored ∈ lw_tbl := tbl_2 _ (List.mem_of_getElem? (i := 44) rfl)
theorem cw_80 : cdC mi_Table_scoredInAll ∈ lw_tbl := tbl_2 _ (List.mem_of_getElem? (i := 193) rfl)
theorem cw_81 : cdC mi_Table_heldRods ∈ lw_tbl := tbl_4 _ (List.mem_of_getElem? (i := 63) rfl)
theorem cw_82 : cdC mi_Table_isHeld ∈ lw_tbl := tbl_2 _ (List.mem_of_getElem? (i := 3) rfl)
theorem cw_83 : cdC mi_Table_heldBy ∈ lw_tbl := tbl_2 _ (List.mem_of_getElem? (i := 8) rfl)
theorem cw_84 : cdC mi_Table_setHeld ∈ lw_tbl := tbl_2 _ (List.mem_of_getElem? (i := 14) rfl)
theorem cw_85 : cdC mi_Table_tenth ∈ lw_tbl := tbl_3 _ (List.mem_of_getElem? (i := 35) rfl)
theorem cw_86 : cdC mi_Table_isDead ∈ lw_tbl := tbl_2 _ (List.mem_of_getElem? (i := 152) rfl)
theorem cw_87 : cdC mi_Table_ballRod ∈ lw_tbl := tbl_3 _ (List.mem_of_getElem? (i := 23) rfl)
theorem cw_88 : cdC mi_Table_ballMan ∈ lw_tbl := tbl_3 _ (List.mem_of_getElem? (i := 27) rfl)
theorem cw_89 : cdC mi_Table_ballPlace ∈ lw_tbl := tbl_3 _ (List.mem_of_getElem? (i := 31) rfl)
theorem cw_90 : cdC mi_Table_loseBall ∈ lw_tbl := tbl_2 _ (List.mem_of_getElem? (i := 22) rfl)
theorem cw_91 : cdC mi_Table_giveBall ∈ lw_tbl := tbl_2 _ (List.mem_of_getElem? (i := 29) rfl)
theorem cw_92 : cdC mi_Table_placeOf ∈ lw_tbl := tbl_2 _ (List.mem_of_getElem? (i := 179) rfl)
theorem cw_93 : cdC mi_Table_covererOf ∈ lw_tbl := tbl_2 _ (List.mem_of_getElem? (i := 189) rfl)
theorem cw_94 : cdC mi_Table_nearestOf ∈ lw_tbl := tbl_2 _ (List.mem_of_getElem? (i := 184) rfl)
theorem cw_95 : cdC mi_Table_overFrom ∈ lw_tbl := tbl_2 _ (List.mem_of_getElem? (i := 170) rfl)
theorem cw_96 : cdC mi_Table_shotEnd ∈ lw_tbl := tbl_2 _ (List.mem_of_getElem? (i := 204) rfl)
theorem cw_97 : cdC mi_Table_reachesGoal ∈ lw_tbl := tbl_2 _ (List.mem_of_getElem? (i := 217) rfl)
theorem cw_98 : cdC mi_Table_shotsToGoal ∈ lw_tbl := tbl_3 _ (List.mem_of_getElem? (i := 105) rfl)
theorem cw_99 : cdC mi_Table_shotsPast ∈ lw_tbl := tbl_3 _ (List.mem_of_getElem? (i := 113) rfl)
theorem cw_100 : cdC mi_Table_bounced ∈ lw_tbl := tbl_2 _ (List.mem_of_getElem? (i := 210) rfl)
theorem cw_101 : cdC mi_Table_whyNot ∈ lw_tbl := tbl_2 _ (List.mem_of_getElem? (i := 144) rfl)
theorem cw_102 : cdC mi_Table_isPlayed ∈ lw_tbl := tbl_2 _ (List.mem_of_getElem? (i := 148) rfl)
theorem cw_103 : cdC mi_Table_isHeldWrongly ∈ lw_tbl := tbl_2 _ (List.mem_of_getElem? (i := 156) rfl)
theorem cw_104 : cdC mi_Table_isNextMan ∈ lw_tbl := tbl_2 _ (List.mem_of_getElem? (i := 163) rfl)
theorem cw_105 : cdC mi_Table_perform ∈ lw_tbl := tbl_2 _ (List.mem_of_getElem? (i := 197) rfl)
theorem cw_106 : cdC mi_Table_endShot ∈ lw_tbl := tbl_2 _ (List.mem_of_getElem? (i := 224) rfl)
theorem cw_107 : cdC mi_Table_tryDrawn ∈ lw_tbl := tbl_4 _ (List.mem_of_getElem? (i := 23) rfl)
theorem cw_108 : cdC mi_Table_drawnNumber ∈ lw_tbl := tbl_4 _ (List.mem_of_getElem? (i := 26) rfl)
theorem cw_109 : cdC mi_F_init ∈ lw_tbl := tbl_1 _ (List.mem_of_getElem? (i := 19) rfl)
theorem cw_110 : cdC mi_F_slide ∈ lw_tbl := tbl_1 _ (List.mem_of_getElem? (i := 215) rfl)
theorem cw_111 : cdC mi_F_hold ∈ lw_tbl := tbl_1 _ (List.mem_of_getElem? (i := 234) rfl)
theorem cw_112 : cdC mi_F_ball ∈ lw_tbl := tbl_2 _ (List.mem_of_getElem? (i := 18) rfl)
theorem cw_113 : cdC mi_F_goals ∈ lw_tbl := tbl_2 _ (List.mem_of_getElem? (i := 33) rfl)
theorem cw_114 : cdC mi_F_say ∈ lw_tbl := tbl_2 _ (List.mem_of_getElem? (i := 48) rfl)
theorem cw_115 : cdC mi_F_wipe ∈ lw_tbl := tbl_2 _ (List.mem_of_getElem? (i := 60) rfl)
theorem cw_116 : cdC mi_F_fault ∈ lw_tbl := tbl_2 _ (List.mem_of_getElem? (i := 68) rfl)
theorem cw_117 : cdC mi_F_judge ∈ lw_tbl := tbl_2 _ (List.mem_of_getElem? (i := 114) rfl)
theorem cw_118 : cdC mi_F_done ∈ lw_tbl := tbl_2 _ (List.mem_of_getElem? (i := 238) rfl)
theorem cw_119 : cdC mi_F_behind ∈ lw_tbl := tbl_3 _ (List.mem_of_getElem? (i := 15) rfl)
theorem cw_120 : cdC mi_F_then ∈ lw_tbl := tbl_3 _ (List.mem_of_getElem? (i := 19) rfl)
theorem cw_121 : cdC mi_F_ends ∈ lw_tbl := tbl_3 _ (List.mem_of_getElem? (i := 43) rfl)
theorem cw_122 : cdC mi_F_goesIn ∈ lw_tbl := tbl_3 _ (List.mem_of_getElem? (i := 49) rfl)
theorem cw_123 : cdC mi_F_path ∈ lw_tbl := tbl_3 _ (List.mem_of_getElem? (i := 56) rfl)
theorem cw_124 : cdC mi_F_stand ∈ lw_tbl := tbl_3 _ (List.mem_of_getElem? (i := 86) rfl)
theorem cw_125 : cdC mi_F_mix ∈ lw_tbl := tbl_3 _ (List.mem_of_getElem? (i := 137) rfl)
theorem cw_126 : cdC mi_F_hands ∈ lw_tbl := tbl_3 _ (List.mem_of_getElem? (i := 164) rfl)
theorem cw_127 : cdC mi_F_truly ∈ lw_tbl := tbl_3 _ (List.mem_of_getElem? (i := 184) rfl)
theorem cw_128 : cdC mi_F_race ∈ lw_tbl := tbl_3 _ (List.mem_of_getElem? (i := 194) rfl)
theorem cw_129 : cdC mi_F_seen ∈ lw_tbl := tbl_3 _ (List.mem_of_getElem? (i := 202) rfl)
theorem cw_130 : cdC mi_F_forget ∈ lw_tbl := tbl_3 _ (List.mem_of_getElem? (i := 214) rfl)
theorem cw_131 : cdC mi_F_fits ∈ lw_tbl := tbl_3 _ (List.mem_of_getElem? (i := 222) rfl)
theorem cw_132 : cdC mi_F_ask ∈ lw_tbl := tbl_4 _ (List.mem_of_getElem? (i := 4) rfl)
theorem cw_133 : cdC mi_F_year ∈ lw_tbl := tbl_4 _ (List.mem_of_getElem? (i := 18) rfl)
theorem cw_134 : cdC mi_F_image ∈ lw_tbl := tbl_4 _ (List.mem_of_getElem? (i := 33) rfl)
theorem cw_135 : cdC mi_F_restore ∈ lw_tbl := tbl_4 _ (List.mem_of_getElem? (i := 51) rfl)
theorem cw_136 : cdC mi_F_told ∈ lw_tbl := tbl_4 _ (List.mem_of_getElem? (i := 59) rfl)
theorem cw_137 : cdC mi_F_toldByNumber ∈ lw_tbl := tbl_4 _ (List.mem_of_getElem? (i := 67) rfl)
theorem cw_138 : cdC mi_F_playsThrough ∈ lw_tbl := tbl_3 _ (List.mem_of_getElem? (i := 2) rfl)
theorem cw_139 : cdC mi_F_imageOf ∈ lw_tbl := tbl_4 _ (List.mem_of_getElem? (i := 37) rfl)
theorem cw_140 : cdC mi_F_isWithin ∈ lw_tbl := tbl_1 _ (List.mem_of_getElem? (i := 222) rfl)
theorem cw_141 : cdC mi_F_isBit ∈ lw_tbl := tbl_2 _ (List.mem_of_getElem? (i := 36) rfl)
theorem cw_142 : cdC mi_F_isTenths ∈ lw_tbl := tbl_3 _ (List.mem_of_getElem? (i := 140) rfl)
theorem cw_143 : cdC mi_F_shotBit ∈ lw_tbl := tbl_3 _ (List.mem_of_getElem? (i := 52) rfl)
theorem cw_144 : cdC mi_F_copyRow ∈ lw_tbl := tbl_2 _ (List.mem_of_getElem? (i := 125) rfl)
theorem cw_145 : cdC mi_M_init ∈ lw_tbl := tbl_4 _ (List.mem_of_getElem? (i := 73) rfl)
theorem cw_146 : cdC mi_M_in ∈ lw_tbl := tbl_4 _ (List.mem_of_getElem? (i := 156) rfl)
theorem cw_147 : cdC mi_M_bits ∈ lw_tbl := tbl_5 _ (List.mem_of_getElem? (i := 74) rfl)
theorem cw_148 : cdC mi_M_isRod ∈ lw_tbl := tbl_4 _ (List.mem_of_getElem? (i := 153) rfl)
theorem cw_149 : cdC mi_M_sideOf ∈ lw_tbl := tbl_4 _ (List.mem_of_getElem? (i := 86) rfl)
theorem cw_150 : cdC mi_M_kindOf ∈ lw_tbl := tbl_4 _ (List.mem_of_getElem? (i := 83) rfl)
theorem cw_151 : cdC mi_M_menOf ∈ lw_tbl := tbl_4 _ (List.mem_of_getElem? (i := 80) rfl)
theorem cw_152 : cdC mi_M_apartOf ∈ lw_tbl := tbl_4 _ (List.mem_of_getElem? (i := 89) rfl)
theorem cw_153 : cdC mi_M_widest ∈ lw_tbl := tbl_4 _ (List.mem_of_getElem? (i := 77) rfl)
theorem cw_154 : cdC mi_M_isMan ∈ lw_tbl := tbl_4 _ (List.mem_of_getElem? (i := 175) rfl)
theorem cw_155 : cdC mi_M_held ∈ lw_tbl := tbl_4 _ (List.mem_of_getElem? (i := 168) rfl)
theorem cw_156 : cdC mi_M_slide ∈ lw_tbl := tbl_4 _ (List.mem_of_getElem? (i := 150) rfl)
theorem cw_157 : cdC mi_M_hold ∈ lw_tbl := tbl_4 _ (List.mem_of_getElem? (i := 160) rfl)
theorem cw_158 : cdC mi_M_ball ∈ lw_tbl := tbl_4 _ (List.mem_of_getElem? (i := 172) rfl)
theorem cw_159 : cdC mi_M_goals ∈ lw_tbl := tbl_4 _ (List.mem_of_getElem? (i := 179) rfl)
theorem cw_160 : cdC mi_M_say ∈ lw_tbl := tbl_4 _ (List.mem_of_getElem? (i := 183) rfl)
theorem cw_161 : cdC mi_M_wipe ∈ lw_tbl := tbl_4 _ (List.mem_of_getElem? (i := 187) rfl)
theorem cw_162 : cdC mi_M_step ∈ lw_tbl := tbl_4 _ (List.mem_of_getElem? (i := 198) rfl)
theorem cw_163 : cdC mi_M_faultOf ∈ lw_tbl := tbl_4 _ (List.mem_of_getElem? (i := 195) rfl)
theorem cw_164 : cdC mi_M_fault ∈ lw_tbl := tbl_4 _ (List.mem_of_getElem? (i := 191) rfl)
theorem cw_165 : cdC mi_M_standsAt ∈ lw_tbl := tbl_4 _ (List.mem_of_getElem? (i := 238) rfl)
theorem cw_166 : cdC mi_M_covers ∈ lw_tbl := tbl_5 _ (List.mem_of_getElem? (i := 2) rfl)
theorem cw_167 : cdC mi_M_shotBy ∈ lw_tbl := tbl_5 _ (List.mem_of_getElem? (i := 10) rfl)
theorem cw_168 : cdC mi_M_overBy ∈ lw_tbl := tbl_4 _ (List.mem_of_getElem? (i := 234) rfl)
theorem cw_169 : cdC mi_M_asNow ∈ lw_tbl := tbl_4 _ (List.mem_of_getElem? (i := 164) rfl)
theorem cw_170 : cdC mi_M_isOver ∈ lw_tbl := tbl_4 _ (List.mem_of_getElem? (i := 218) rfl)
theorem cw_171 : cdC mi_M_grasp ∈ lw_tbl := tbl_5 _ (List.mem_of_getElem? (i := 22) rfl)
theorem cw_172 : cdC mi_M_letGo ∈ lw_tbl := tbl_5 _ (List.mem_of_getElem? (i := 26) rfl)
theorem cw_173 : cdC mi_M_slideBy ∈ lw_tbl := tbl_5 _ (List.mem_of_getElem? (i := 30) rfl)
theorem cw_174 : cdC mi_M_whyNot ∈ lw_tbl := tbl_4 _ (List.mem_of_getElem? (i := 226) rfl)
theorem cw_175 : cdC mi_M_passTo ∈ lw_tbl := tbl_4 _ (List.mem_of_getElem? (i := 222) rfl)
theorem cw_176 : cdC mi_M_passOver ∈ lw_tbl := tbl_4 _ (List.mem_of_getElem? (i := 230) rfl)
theorem cw_177 : cdC mi_M_shoot ∈ lw_tbl := tbl_5 _ (List.mem_of_getElem? (i := 6) rfl)
theorem cw_178 : cdC mi_M_throwIn ∈ lw_tbl := tbl_5 _ (List.mem_of_getElem? (i := 14) rfl)
theorem cw_179 : cdC mi_M_endTenth ∈ lw_tbl := tbl_4 _ (List.mem_of_getElem? (i := 214) rfl)
theorem cw_180 : cdC mi_M_rodAct ∈ lw_tbl := tbl_5 _ (List.mem_of_getElem? (i := 18) rfl)
theorem cw_181 : cdC mi_M_nextAct ∈ lw_tbl := tbl_4 _ (List.mem_of_getElem? (i := 210) rfl)
theorem cw_182 : cdC mi_M_goEvenings ∈ lw_tbl := tbl_4 _ (List.mem_of_getElem? (i := 206) rfl)
theorem cw_183 : cdC mi_M_judge ∈ lw_tbl := tbl_4 _ (List.mem_of_getElem? (i := 202) rfl)
theorem cw_184 : cdC mi_M_barOfEvenings ∈ lw_tbl := tbl_5 _ (List.mem_of_getElem? (i := 38) rfl)
theorem cw_185 : cdC mi_M_done ∈ lw_tbl := tbl_5 _ (List.mem_of_getElem? (i := 34) rfl)
theorem cw_186 : cdC mi_M_behind ∈ lw_tbl := tbl_5 _ (List.mem_of_getElem? (i := 42) rfl)
theorem cw_187 : cdC mi_M_then ∈ lw_tbl := tbl_5 _ (List.mem_of_getElem? (i := 46) rfl)
theorem cw_188 : cdC mi_M_ends ∈ lw_tbl := tbl_5 _ (List.mem_of_getElem? (i := 50) rfl)
theorem cw_189 : cdC mi_M_allIn ∈ lw_tbl := tbl_5 _ (List.mem_of_getElem? (i := 58) rfl)
theorem cw_190 : cdC mi_M_goesIn ∈ lw_tbl := tbl_5 _ (List.mem_of_getElem? (i := 54) rfl)
theorem cw_191 : cdC mi_M_passes ∈ lw_tbl := tbl_5 _ (List.mem_of_getElem? (i := 67) rfl)
theorem cw_192 : cdC mi_M_path ∈ lw_tbl := tbl_5 _ (List.mem_of_getElem? (i := 62) rfl)
theorem cw_193 : cdC mi_M_stand ∈ lw_tbl := tbl_5 _ (List.mem_of_getElem? (i := 71) rfl)
theorem cw_194 : cdC mi_M_lowest ∈ lw_tbl := tbl_5 _ (List.mem_of_getElem? (i := 83) rfl)
theorem cw_195 : cdC mi_M_mix ∈ lw_tbl := tbl_5 _ (List.mem_of_getElem? (i := 78) rfl)
theorem cw_196 : cdC mi_M_hands ∈ lw_tbl := tbl_5 _ (List.mem_of_getElem? (i := 87) rfl)
theorem cw_197 : cdC mi_M_power ∈ lw_tbl := tbl_5 _ (List.mem_of_getElem? (i := 94) rfl)
theorem cw_198 : cdC mi_M_truly ∈ lw_tbl := tbl_5 _ (List.mem_of_getElem? (i := 91) rfl)
theorem cw_199 : cdC mi_M_race ∈ lw_tbl := tbl_5 _ (List.mem_of_getElem? (i := 98) rfl)
theorem cw_200 : cdC mi_M_seen ∈ lw_tbl := tbl_5 _ (List.mem_of_getElem? (i := 103) rfl)
theorem cw_201 : cdC mi_M_forget ∈ lw_tbl := tbl_5 _ (List.mem_of_getElem? (i := 107) rfl)
theorem cw_202 : cdC mi_M_sideAt ∈ lw_tbl := tbl_5 _ (List.mem_of_getElem? (i := 118) rfl)
theorem cw_203 : cdC mi_M_isFit ∈ lw_tbl := tbl_5 _ (List.mem_of_getElem? (i := 115) rfl)
theorem cw_204 : cdC mi_M_fits ∈ lw_tbl := tbl_5 _ (List.mem_of_getElem? (i := 111) rfl)
theorem cw_205 : cdC mi_M_ask ∈ lw_tbl := tbl_5 _ (List.mem_of_getElem? (i := 122) rfl)
theorem cw_206 : cdC mi_M_year ∈ lw_tbl := tbl_5 _ (List.mem_of_getElem? (i := 126) rfl)
theorem cw_207 : cdC mi_M_image ∈ lw_tbl := tbl_5 _ (List.mem_of_getElem? (i := 131) rfl)
theorem cw_208 : cdC mi_M_restore ∈ lw_tbl := tbl_5 _ (List.mem_of_getElem? (i := 135) rfl)
theorem cw_209 : cdC mi_M_told ∈ lw_tbl := tbl_5 _ (List.mem_of_getElem? (i := 139) rfl)
theorem cw_210 : cdC mi_Integer_bitCount ∈ lw_tbl := tbl_3 _ (List.mem_of_getElem? (i := 122) rfl)
theorem cw_211 : cdC mi_Math_floorMod ∈ lw_tbl := tbl_2 _ (List.mem_of_getElem? (i := 213) rfl)
theorem cw_212 : cdC mi_Math_abs ∈ lw_tbl := tbl_2 _ (List.mem_of_getElem? (i := 166) rfl)
theorem cw_213 : cdC mi_Math_max ∈ lw_tbl := tbl_3 _ (List.mem_of_getElem? (i := 153) rfl)
theorem cw_214 : cdC mi_Math_min ∈ lw_tbl := tbl_3 _ (List.mem_of_getElem? (i := 150) rfl)
theorem cg_0 (ts : List MIt) (h : ∀ i ∈ ts, cdC i ∈ lw_tbl) : ∀ i ∈ mi_Chances_part :: mi_Chances_commonDivisor :: mi_Chances_mixed :: mi_Chances_mixedInOrder :: mi_Chances_isTheFirst :: mi_Chances_winsRace :: mi_Chances_power :: mi_Defence_init :: mi_Defence_letIn :: mi_Defence_slides :: mi_Defence_place :: mi_Defence_shotsPastOthers :: mi_Defence_tryKeeper :: mi_Evening_init :: mi_Evening_table :: mi_Evening_acts :: mi_Evening_stoppedAt :: mi_Evening_reason :: mi_Evening_firstGoal :: mi_Evening_play :: mi_Grasps_isRow :: mi_Grasps_fewest :: mi_Grasps_needed :: mi_Grasps_latest :: ts, cdC i ∈ lw_tbl := List.forall_mem_cons.mpr ⟨cw_0, List.forall_mem_cons.mpr ⟨cw_1, List.forall_mem_cons.mpr ⟨cw_2, List.forall_mem_cons.mpr ⟨cw_3, List.forall_mem_cons.mpr ⟨cw_4, List.forall_mem_cons.mpr ⟨cw_5, List.forall_mem_cons.mpr ⟨cw_6, List.forall_mem_cons.mpr ⟨cw_7, List.forall_mem_cons.mpr ⟨cw_8, List.forall_mem_cons.mpr ⟨cw_9, List.forall_mem_cons.mpr ⟨cw_10, List.forall_mem_cons.mpr ⟨cw_11, List.forall_mem_cons.mpr ⟨cw_12, List.forall_mem_cons.mpr ⟨cw_13, List.forall_mem_cons.mpr ⟨cw_14, List.forall_mem_cons.mpr ⟨cw_15, List.forall_mem_cons.mpr ⟨cw_16, List.forall_mem_cons.mpr ⟨cw_17, List.forall_mem_cons.mpr ⟨cw_18, List.forall_mem_cons.mpr ⟨cw_19, List.forall_mem_cons.mpr ⟨cw_20, List.forall_mem_cons.mpr ⟨cw_21, List.forall_mem_cons.mpr ⟨cw_22, List.forall_mem_cons.mpr ⟨cw_23, h⟩⟩⟩⟩⟩⟩⟩⟩⟩⟩⟩⟩⟩⟩⟩⟩⟩⟩⟩⟩⟩⟩⟩⟩
theorem cg_1 (ts : List MIt) (h : ∀ i ∈ ts, cdC i ∈ lw_tbl) : ∀ i ∈ mi_Grasps_nextNeed :: mi_Image_init :: mi_Image_keep :: mi_Image_giveBack :: mi_Pad_init :: mi_Pad_size :: mi_Pad_add :: mi_Pad_clear :: mi_Pad_rewind :: mi_Pad_isReadOut :: mi_Pad_kind :: mi_Pad_rod :: mi_Pad_number :: mi_Pad_faultPlace :: mi_Pad_readAct :: mi_Pad_takesHandling :: mi_Pad_takesWay :: mi_Pad_takes :: mi_Pad_takesRod :: mi_Pad_takesDigit :: mi_Pad_nextSign :: mi_Passes_init :: mi_Passes_from :: mi_Passes_countTo :: ts, cdC i ∈ lw_tbl := List.forall_mem_cons.mpr ⟨cw_24, List.forall_mem_cons.mpr ⟨cw_25, List.forall_mem_cons.mpr ⟨cw_26, List.forall_mem_cons.mpr ⟨cw_27, List.forall_mem_cons.mpr ⟨cw_28, List.forall_mem_cons.mpr ⟨cw_29, List.forall_mem_cons.mpr ⟨cw_30, List.forall_mem_cons.mpr ⟨cw_31, List.forall_mem_cons.mpr ⟨cw_32, List.forall_mem_cons.mpr ⟨cw_33, List.forall_mem_cons.mpr ⟨cw_34, List.forall_mem_cons.mpr ⟨cw_35, List.forall_mem_cons.mpr ⟨cw_36, List.forall_mem_cons.mpr ⟨cw_37, List.forall_mem_cons.mpr ⟨cw_38, List.forall_mem_cons.mpr ⟨cw_39, List.forall_mem_cons.mpr ⟨cw_40, List.forall_mem_cons.mpr ⟨cw_41, List.forall_mem_cons.mpr ⟨cw_42, List.forall_mem_cons.mpr ⟨cw_43, List.forall_mem_cons.mpr ⟨cw_44, List.forall_mem_cons.mpr ⟨cw_45, List.forall_mem_cons.mpr ⟨cw_46, List.forall_mem_cons.mpr ⟨cw_47, h⟩⟩⟩⟩⟩⟩⟩⟩⟩⟩⟩⟩⟩⟩⟩⟩⟩⟩⟩⟩⟩⟩⟩⟩
theorem cg_2 (ts : List MIt) (h : ∀ i ∈ ts, cdC i ∈ lw_tbl) : ∀ i ∈ mi_Passes_leads :: mi_Passes_firstFrom :: mi_Passes_receiver :: mi_Passes_ownOnly :: mi_Rods_isRod :: mi_Rods_isMan :: mi_Rods_sideOf :: mi_Rods_menOf :: mi_Rods_gapOf :: mi_Rods_lastSlide :: mi_Rods_isOf :: mi_Rods_keeperOf :: mi_Rods_backsOf :: mi_Rods_stepToGoalOf :: mi_Sights_init :: mi_Sights_size :: mi_Sights_add :: mi_Sights_clear :: mi_Sights_copyFrom :: mi_Sights_findRows :: mi_Sights_rowFound :: mi_Sights_bestShot :: mi_Sights_mostLeft :: mi_Sights_isRow :: ts, cdC i ∈ lw_tbl := List.forall_mem_cons.mpr ⟨cw_48, List.forall_mem_cons.mpr ⟨cw_49, List.forall_mem_cons.mpr ⟨cw_50, List.forall_mem_cons.mpr ⟨cw_51, List.forall_mem_cons.mpr ⟨cw_52, List.forall_mem_cons.mpr ⟨cw_53, List.forall_mem_cons.mpr ⟨cw_54, List.forall_mem_cons.mpr ⟨cw_55, List.forall_mem_cons.mpr ⟨cw_56, List.forall_mem_cons.mpr ⟨cw_57, List.forall_mem_cons.mpr ⟨cw_58, List.forall_mem_cons.mpr ⟨cw_59, List.forall_mem_cons.mpr ⟨cw_60, List.forall_mem_cons.mpr ⟨cw_61, List.forall_mem_cons.mpr ⟨cw_62, List.forall_mem_cons.mpr ⟨cw_63, List.forall_mem_cons.mpr ⟨cw_64, List.forall_mem_cons.mpr ⟨cw_65, List.forall_mem_cons.mpr ⟨cw_66, List.forall_mem_cons.mpr ⟨cw_67, List.forall_mem_cons.mpr ⟨cw_68, List.forall_mem_cons.mpr ⟨cw_69, List.forall_mem_cons.mpr ⟨cw_70, List.forall_mem_cons.mpr ⟨cw_71, h⟩⟩⟩⟩⟩⟩⟩⟩⟩⟩⟩⟩⟩⟩⟩⟩⟩⟩⟩⟩⟩⟩⟩⟩
theorem cg_3 (ts : List MIt) (h : ∀ i ∈ ts, cdC i ∈ lw_tbl) : ∀ i ∈ mi_Sights_fitsAll :: mi_Sights_sideBy :: mi_Table_init :: mi_Table_copyFrom :: mi_Table_slideOf :: mi_Table_slideTo :: mi_Table_scoredBy :: mi_Table_setScored :: mi_Table_scoredInAll :: mi_Table_heldRods :: mi_Table_isHeld :: mi_Table_heldBy :: mi_Table_setHeld :: mi_Table_tenth :: mi_Table_isDead :: mi_Table_ballRod :: mi_Table_ballMan :: mi_Table_ballPlace :: mi_Table_loseBall :: mi_Table_giveBall :: mi_Table_placeOf :: mi_Table_covererOf :: mi_Table_nearestOf :: mi_Table_overFrom :: ts, cdC i ∈ lw_tbl := List.forall_mem_cons.mpr ⟨cw_72, List.forall_mem_cons.mpr ⟨cw_73, List.forall_mem_cons.mpr ⟨cw_74, List.forall_mem_cons.mpr ⟨cw_75, List.forall_mem_cons.mpr ⟨cw_76, List.forall_mem_cons.mpr ⟨cw_77, List.forall_mem_cons.mpr ⟨cw_78, List.forall_mem_cons.mpr ⟨cw_79, List.forall_mem_cons.mpr ⟨cw_80, List.forall_mem_cons.mpr ⟨cw_81, List.forall_mem_cons.mpr ⟨cw_82, List.forall_mem_cons.mpr ⟨cw_83, List.forall_mem_cons.mpr ⟨cw_84, List.forall_mem_cons.mpr ⟨cw_85, List.forall_mem_cons.mpr ⟨cw_86, List.forall_mem_cons.mpr ⟨cw_87, List.forall_mem_cons.mpr ⟨cw_88, List.forall_mem_cons.mpr ⟨cw_89, List.forall_mem_cons.mpr ⟨cw_90, List.forall_mem_cons.mpr ⟨cw_91, List.forall_mem_cons.mpr ⟨cw_92, List.forall_mem_cons.mpr ⟨cw_93, List.forall_mem_cons.mpr ⟨cw_94, List.forall_mem_cons.mpr ⟨cw_95, h⟩⟩⟩⟩⟩⟩⟩⟩⟩⟩⟩⟩⟩⟩⟩⟩⟩⟩⟩⟩⟩⟩⟩⟩
theorem cg_4 (ts : List MIt) (h : ∀ i ∈ ts, cdC i ∈ lw_tbl) : ∀ i ∈ mi_Table_shotEnd :: mi_Table_reachesGoal :: mi_Table_shotsToGoal :: mi_Table_shotsPast :: mi_Table_bounced :: mi_Table_whyNot :: mi_Table_isPlayed :: mi_Table_isHeldWrongly :: mi_Table_isNextMan :: mi_Table_perform :: mi_Table_endShot :: mi_Table_tryDrawn :: mi_Table_drawnNumber :: mi_F_init :: mi_F_slide :: mi_F_hold :: mi_F_ball :: mi_F_goals :: mi_F_say :: mi_F_wipe :: mi_F_fault :: mi_F_judge :: mi_F_done :: mi_F_behind :: ts, cdC i ∈ lw_tbl := List.forall_mem_cons.mpr ⟨cw_96, List.forall_mem_cons.mpr ⟨cw_97, List.forall_mem_cons.mpr ⟨cw_98, List.forall_mem_cons.mpr ⟨cw_99, List.forall_mem_cons.mpr ⟨cw_100, List.forall_mem_cons.mpr ⟨cw_101, List.forall_mem_cons.mpr ⟨cw_102, List.forall_mem_cons.mpr ⟨cw_103, List.forall_mem_cons.mpr ⟨cw_104, List.forall_mem_cons.mpr ⟨cw_105, List.forall_mem_cons.mpr ⟨cw_106, List.forall_mem_cons.mpr ⟨cw_107, List.forall_mem_cons.mpr ⟨cw_108, List.forall_mem_cons.mpr ⟨cw_109, List.forall_mem_cons.mpr ⟨cw_110, List.forall_mem_cons.mpr ⟨cw_111, List.forall_mem_cons.mpr ⟨cw_112, List.forall_mem_cons.mpr ⟨cw_113, List.forall_mem_cons.mpr ⟨cw_114, List.forall_mem_cons.mpr ⟨cw_115, List.forall_mem_cons.mpr ⟨cw_116, List.forall_mem_cons.mpr ⟨cw_117, List.forall_mem_cons.mpr ⟨cw_118, List.forall_mem_cons.mpr ⟨cw_119, h⟩⟩⟩⟩⟩⟩⟩⟩⟩⟩⟩⟩⟩⟩⟩⟩⟩⟩⟩⟩⟩⟩⟩⟩
theorem cg_5 (ts : List MIt) (h : ∀ i ∈ ts, cdC i ∈ lw_tbl) : ∀ i ∈ mi_F_then :: mi_F_ends :: mi_F_goesIn :: mi_F_path :: mi_F_stand :: mi_F_mix :: mi_F_hands :: mi_F_truly :: mi_F_race :: mi_F_seen :: mi_F_forget :: mi_F_fits :: mi_F_ask :: mi_F_year :: mi_F_image :: mi_F_restore :: mi_F_told :: mi_F_toldByNumber :: mi_F_playsThrough :: mi_F_imageOf :: mi_F_isWithin :: mi_F_isBit :: mi_F_isTenths :: mi_F_shotBit :: ts, cdC i ∈ lw_tbl := List.forall_mem_cons.mpr ⟨cw_120, List.forall_mem_cons.mpr ⟨cw_121, List.forall_mem_cons.mpr ⟨cw_122, List.forall_mem_cons.mpr ⟨cw_123, List.forall_mem_cons.mpr ⟨cw_124, List.forall_mem_cons.mpr ⟨cw_125, List.forall_mem_cons.mpr ⟨cw_126, List.forall_mem_cons.mpr ⟨cw_127, List.forall_mem_cons.mpr ⟨cw_128, List.forall_mem_cons.mpr ⟨cw_129, List.forall_mem_cons.mpr ⟨cw_130, List.forall_mem_cons.mpr ⟨cw_131, List.forall_mem_cons.mpr ⟨cw_132, List.forall_mem_cons.mpr ⟨cw_133, List.forall_mem_cons.mpr ⟨cw_134, List.forall_mem_cons.mpr ⟨cw_135, List.forall_mem_cons.mpr ⟨cw_136, List.forall_mem_cons.mpr ⟨cw_137, List.forall_mem_cons.mpr ⟨cw_138, List.forall_mem_cons.mpr ⟨cw_139, List.forall_mem_cons.mpr ⟨cw_140, List.forall_mem_cons.mpr ⟨cw_141, List.forall_mem_cons.mpr ⟨cw_142, List.forall_mem_cons.mpr ⟨cw_143, h⟩⟩⟩⟩⟩⟩⟩⟩⟩⟩⟩⟩⟩⟩⟩⟩⟩⟩⟩⟩⟩⟩⟩⟩
theorem cg_6 (ts : List MIt) (h : ∀ i ∈ ts, cdC i ∈ lw_tbl) : ∀ i ∈ mi_F_copyRow :: mi_M_init :: mi_M_in :: mi_M_bits :: mi_M_isRod :: mi_M_sideOf :: mi_M_kindOf :: mi_M_menOf :: mi_M_apartOf :: mi_M_widest :: mi_M_isMan :: mi_M_held :: mi_M_slide :: mi_M_hold :: mi_M_ball :: mi_M_goals :: mi_M_say :: mi_M_wipe :: mi_M_step :: mi_M_faultOf :: mi_M_fault :: mi_M_standsAt :: mi_M_covers :: mi_M_shotBy :: ts, cdC i ∈ lw_tbl := List.forall_mem_cons.mpr ⟨cw_144, List.forall_mem_cons.mpr ⟨cw_145, List.forall_mem_cons.mpr ⟨cw_146, List.forall_mem_cons.mpr ⟨cw_147, List.forall_mem_cons.mpr ⟨cw_148, List.forall_mem_cons.mpr ⟨cw_149, List.forall_mem_cons.mpr ⟨cw_150, List.forall_mem_cons.mpr ⟨cw_151, List.forall_mem_cons.mpr ⟨cw_152, List.forall_mem_cons.mpr ⟨cw_153, List.forall_mem_cons.mpr ⟨cw_154, List.forall_mem_cons.mpr ⟨cw_155, List.forall_mem_cons.mpr ⟨cw_156, List.forall_mem_cons.mpr ⟨cw_157, List.forall_mem_cons.mpr ⟨cw_158, List.forall_mem_cons.mpr ⟨cw_159, List.forall_mem_cons.mpr ⟨cw_160, List.forall_mem_cons.mpr ⟨cw_161, List.forall_mem_cons.mpr ⟨cw_162, List.forall_mem_cons.mpr ⟨cw_163, List.forall_mem_cons.mpr ⟨cw_164, List.forall_mem_cons.mpr ⟨cw_165, List.forall_mem_cons.mpr ⟨cw_166, List.forall_mem_cons.mpr ⟨cw_167, h⟩⟩⟩⟩⟩⟩⟩⟩⟩⟩⟩⟩⟩⟩⟩⟩⟩⟩⟩⟩⟩⟩⟩⟩
theorem cg_7 (ts : List MIt) (h : ∀ i ∈ ts, cdC i ∈ lw_tbl) : ∀ i ∈ mi_M_overBy :: mi_M_asNow :: mi_M_isOver :: mi_M_grasp :: mi_M_letGo :: mi_M_slideBy :: mi_M_whyNot :: mi_M_passTo :: mi_M_passOver :: mi_M_shoot :: mi_M_throwIn :: mi_M_endTenth :: mi_M_rodAct :: mi_M_nextAct :: mi_M_goEvenings :: mi_M_judge :: mi_M_barOfEvenings :: mi_M_done :: mi_M_behind :: mi_M_then :: mi_M_ends :: mi_M_allIn :: mi_M_goesIn :: mi_M_passes :: ts, cdC i ∈ lw_tbl := List.forall_mem_cons.mpr ⟨cw_168, List.forall_mem_cons.mpr ⟨cw_169, List.forall_mem_cons.mpr ⟨cw_170, List.forall_mem_cons.mpr ⟨cw_171, List.forall_mem_cons.mpr ⟨cw_172, List.forall_mem_cons.mpr ⟨cw_173, List.forall_mem_cons.mpr ⟨cw_174, List.forall_mem_cons.mpr ⟨cw_175, List.forall_mem_cons.mpr ⟨cw_176, List.forall_mem_cons.mpr ⟨cw_177, List.forall_mem_cons.mpr ⟨cw_178, List.forall_mem_cons.mpr ⟨cw_179, List.forall_mem_cons.mpr ⟨cw_180, List.forall_mem_cons.mpr ⟨cw_181, List.forall_mem_cons.mpr ⟨cw_182, List.forall_mem_cons.mpr ⟨cw_183, List.forall_mem_cons.mpr ⟨cw_184, List.forall_mem_cons.mpr ⟨cw_185, List.forall_mem_cons.mpr ⟨cw_186, List.forall_mem_cons.mpr ⟨cw_187, List.forall_mem_cons.mpr ⟨cw_188, List.forall_mem_cons.mpr ⟨cw_189, List.forall_mem_cons.mpr ⟨cw_190, List.forall_mem_cons.mpr ⟨cw_191, h⟩⟩⟩⟩⟩⟩⟩⟩⟩⟩⟩⟩⟩⟩⟩⟩⟩⟩⟩⟩⟩⟩⟩⟩
theorem cg_8 (ts : List MIt) (h : ∀ i ∈ ts, cdC i ∈ lw_tbl) : ∀ i ∈ mi_M_path :: mi_M_stand :: mi_M_lowest :: mi_M_mix :: mi_M_hands :: mi_M_power :: mi_M_truly :: mi_M_race :: mi_M_seen :: mi_M_forget :: mi_M_sideAt :: mi_M_isFit :: mi_M_fits :: mi_M_ask :: mi_M_year :: mi_M_image :: mi_M_restore :: mi_M_told :: mi_Integer_bitCount :: mi_Math_floorMod :: mi_Math_abs :: mi_Math_max :: mi_Math_min :: ts, cdC i ∈ lw_tbl := List.forall_mem_cons.mpr ⟨cw_192, List.forall_mem_cons.mpr ⟨cw_193, List.forall_mem_cons.mpr ⟨cw_194, List.forall_mem_cons.mpr ⟨cw_195, List.forall_mem_cons.mpr ⟨cw_196, List.forall_mem_cons.mpr ⟨cw_197, List.forall_mem_cons.mpr ⟨cw_198, List.forall_mem_cons.mpr ⟨cw_199, List.forall_mem_cons.mpr ⟨cw_200, List.forall_mem_cons.mpr ⟨cw_201, List.forall_mem_cons.mpr ⟨cw_202, List.forall_mem_cons.mpr ⟨cw_203, List.forall_mem_cons.mpr ⟨cw_204, List.forall_mem_cons.mpr ⟨cw_205, List.forall_mem_cons.mpr ⟨cw_206, List.forall_mem_cons.mpr ⟨cw_207, List.forall_mem_cons.mpr ⟨cw_208, List.forall_mem_cons.mpr ⟨cw_209, List.forall_mem_cons.mpr ⟨cw_210, List.forall_mem_cons.mpr ⟨cw_211, List.forall_mem_cons.mpr ⟨cw_212, List.forall_mem_cons.mpr ⟨cw_213, List.forall_mem_cons.mpr ⟨cw_214, h⟩⟩⟩⟩⟩⟩⟩⟩⟩⟩⟩⟩⟩⟩⟩⟩⟩⟩⟩⟩⟩⟩⟩
set_option maxRecDepth 100000 in
theorem MIc_in : ∀ i ∈ MIc, cdC i ∈ lw_tbl := (cg_0 _ (cg_1 _ (cg_2 _ (cg_3 _ (cg_4 _ (cg_5 _ (cg_6 _ (cg_7 _ (cg_8 _ (fun _ h => absurd h List.not_mem_nil))))))))))
theorem A_code_in : ∀ w ∈ A_code, w ∈ lw_tbl := by
  intro w h
  obtain ⟨i, hi, rfl⟩ := List.mem_map.mp h
  exact MIc_in i hi
theorem inst_0 : Jvm.Cond.instantiable (cnm 0) (nfC 0) ∈ lw_tbl := List.mem_of_getElem? (i := 163) (by decide +kernel)
theorem inst_1 : Jvm.Cond.instantiable (cnm 1) (nfC 1) ∈ lw_tbl := List.mem_of_getElem? (i := 129) (by decide +kernel)
theorem inst_2 : Jvm.Cond.instantiable (cnm 2) (nfC 2) ∈ lw_tbl := List.mem_of_getElem? (i := 206) (by decide +kernel)
theorem inst_3 : Jvm.Cond.instantiable (cnm 3) (nfC 3) ∈ lw_tbl := List.mem_of_getElem? (i := 104) (by decide +kernel)
theorem inst_4 : Jvm.Cond.instantiable (cnm 4) (nfC 4) ∈ lw_tbl := List.mem_of_getElem? (i := 153) (by decide +kernel)
theorem inst_5 : Jvm.Cond.instantiable (cnm 5) (nfC 5) ∈ lw_tbl := List.mem_of_getElem? (i := 184) (by decide +kernel)
theorem inst_6 : Jvm.Cond.instantiable (cnm 6) (nfC 6) ∈ lw_tbl := List.mem_of_getElem? (i := 65) (by decide +kernel)
theorem inst_7 : Jvm.Cond.instantiable (cnm 7) (nfC 7) ∈ lw_tbl := List.mem_of_getElem? (i := 57) (by decide +kernel)
theorem inst_8 : Jvm.Cond.instantiable (cnm 8) (nfC 8) ∈ lw_tbl := List.mem_of_getElem? (i := 831) (by decide +kernel)
theorem inst_in : ∀ k, k < 9 → Jvm.Cond.instantiable (cnm k) (nfC k) ∈ lw_tbl := by
  intro k hk
  match k, hk with
  | 0, _ => exact inst_0
  | 1, _ => exact inst_1
  | 2, _ => exact inst_2
  | 3, _ => exact inst_3
  | 4, _ => exact inst_4
  | 5, _ => exact inst_5
  | 6, _ => exact inst_6
  | 7, _ => exact inst_7
  | 8, _ => exact inst_8
  | k + 9, h => exact absurd h (by omega)
theorem lays0 : Jvm.Cond.laysStatic SOW "SIDES" "[I" ∈ lw_tbl := List.mem_of_getElem? (i := 280) (by decide +kernel)
theorem lays1 : Jvm.Cond.laysStatic SOW "MEN" "[I" ∈ lw_tbl := List.mem_of_getElem? (i := 77) (by decide +kernel)
theorem lays2 : Jvm.Cond.laysStatic SOW "GAPS" "[I" ∈ lw_tbl := List.mem_of_getElem? (i := 82) (by decide +kernel)
theorem ALL_in : ∀ w ∈ ALL, w ∈ lw_tbl := fun w h => (List.mem_append.mp h).elim (A_code_in w) (AL2_in w)
theorem AL2_good : AL2.all goodWord = true := by decide +kernel
theorem ALL_good : ∀ w ∈ ALL, goodWord w = true := by
  intro w h
  rcases List.mem_append.mp h with h | h
  · obtain ⟨i, -, rfl⟩ := List.mem_map.mp h
    rfl
  · exact List.all_eq_true.mp AL2_good w h
def NSTw : List Jvm.Cond := NST.map (fun q => .methodLinkNest (cnm q.1) q.2.1 (yM q.2.2.1) q.2.2.2)
def NSTp : List Nat := [105, 130, 154, 164, 185, 207, 214, 378, 404, 628, 808]
theorem NST_eq : NSTw = NSTp.filterMap (fun i => lw_tbl[i]?) := by decide +kernel
theorem NST_in : ∀ w ∈ NSTw, w ∈ lw_tbl := by
  intro w h
  rw [NST_eq] at h
  obtain ⟨i, -, hi⟩ := List.mem_filterMap.mp h
  exact List.mem_of_getElem? hi
