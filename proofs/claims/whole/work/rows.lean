section
-- ===== PART A: goes FIRST, ahead of the names: the tables' words, and 'selects' of the private methods out of them =====
/-- a private method of a class that the tables say can be made, by its rows of tables_1 -/
def lw_okq (q : MethodName × Nat) : Prop := (q.1.cls ≠ "java/lang/invoke/MethodHandle" ∧ q.1.cls ≠ "java/lang/invoke/VarHandle") ∧ Cond.instantiable q.1.cls q.2 ∈ tables_1 ∧ Cond.privateMethod q.1 ∈ tables_1 ∧ Cond.instanceMethod q.1 ∈ tables_1
theorem lw_p0 : lw_okq (⟨"FourRods$Pad", "takes", "(II)Z"⟩, 6) := ⟨⟨by decide +kernel, by decide +kernel⟩, List.mem_of_getElem? (i := 63) (by decide +kernel), List.mem_of_getElem? (i := 326) (by decide +kernel), List.mem_of_getElem? (i := 327) (by decide +kernel)⟩
theorem lw_p1 : lw_okq (⟨"FourRods$Pad", "nextSign", "()I"⟩, 6) := ⟨⟨by decide +kernel, by decide +kernel⟩, List.mem_of_getElem? (i := 63) (by decide +kernel), List.mem_of_getElem? (i := 330) (by decide +kernel), List.mem_of_getElem? (i := 331) (by decide +kernel)⟩
theorem lw_p2 : lw_okq (⟨"FourRods$Pad", "takesDigit", "(II)Z"⟩, 6) := ⟨⟨by decide +kernel, by decide +kernel⟩, List.mem_of_getElem? (i := 63) (by decide +kernel), List.mem_of_getElem? (i := 334) (by decide +kernel), List.mem_of_getElem? (i := 335) (by decide +kernel)⟩
theorem lw_p3 : lw_okq (⟨"FourRods$Pad", "takesRod", "()Z"⟩, 6) := ⟨⟨by decide +kernel, by decide +kernel⟩, List.mem_of_getElem? (i := 63) (by decide +kernel), List.mem_of_getElem? (i := 339) (by decide +kernel), List.mem_of_getElem? (i := 340) (by decide +kernel)⟩
theorem lw_p4 : lw_okq (⟨"FourRods$Pad", "takesWay", "()Z"⟩, 6) := ⟨⟨by decide +kernel, by decide +kernel⟩, List.mem_of_getElem? (i := 63) (by decide +kernel), List.mem_of_getElem? (i := 344) (by decide +kernel), List.mem_of_getElem? (i := 345) (by decide +kernel)⟩
theorem lw_p5 : lw_okq (⟨"FourRods$Pad", "takesHandling", "()Z"⟩, 6) := ⟨⟨by decide +kernel, by decide +kernel⟩, List.mem_of_getElem? (i := 63) (by decide +kernel), List.mem_of_getElem? (i := 348) (by decide +kernel), List.mem_of_getElem? (i := 349) (by decide +kernel)⟩
theorem lw_p6 : lw_okq (⟨"FourRods$Table", "isHeldWrongly", "(II)Z"⟩, 6) := ⟨⟨by decide +kernel, by decide +kernel⟩, List.mem_of_getElem? (i := 24) (by decide +kernel), List.mem_of_getElem? (i := 394) (by decide +kernel), List.mem_of_getElem? (i := 395) (by decide +kernel)⟩
theorem lw_p7 : lw_okq (⟨"FourRods$Table", "isNextMan", "(I)Z"⟩, 6) := ⟨⟨by decide +kernel, by decide +kernel⟩, List.mem_of_getElem? (i := 24) (by decide +kernel), List.mem_of_getElem? (i := 401) (by decide +kernel), List.mem_of_getElem? (i := 402) (by decide +kernel)⟩
theorem lw_p8 : lw_okq (⟨"FourRods$Table", "reachesGoal", "(II)Z"⟩, 6) := ⟨⟨by decide +kernel, by decide +kernel⟩, List.mem_of_getElem? (i := 24) (by decide +kernel), List.mem_of_getElem? (i := 455) (by decide +kernel), List.mem_of_getElem? (i := 456) (by decide +kernel)⟩
theorem lw_p9 : lw_okq (⟨"FourRods$Table", "endShot", "(I)V"⟩, 6) := ⟨⟨by decide +kernel, by decide +kernel⟩, List.mem_of_getElem? (i := 24) (by decide +kernel), List.mem_of_getElem? (i := 462) (by decide +kernel), List.mem_of_getElem? (i := 463) (by decide +kernel)⟩
theorem lw_p10 : lw_okq (⟨"FourRods", "playsThrough", "()Z"⟩, 9) := ⟨⟨by decide +kernel, by decide +kernel⟩, List.mem_of_getElem? (i := 16) (by decide +kernel), List.mem_of_getElem? (i := 480) (by decide +kernel), List.mem_of_getElem? (i := 481) (by decide +kernel)⟩
theorem lw_p11 : lw_okq (⟨"FourRods$Passes", "leads", "(LFourRods$Table;II)Z"⟩, 1) := ⟨⟨by decide +kernel, by decide +kernel⟩, List.mem_of_getElem? (i := 112) (by decide +kernel), List.mem_of_getElem? (i := 542) (by decide +kernel), List.mem_of_getElem? (i := 543) (by decide +kernel)⟩
theorem lw_p12 : lw_okq (⟨"FourRods$Defence", "shotsPastOthers", "(I)I"⟩, 4) := ⟨⟨by decide +kernel, by decide +kernel⟩, List.mem_of_getElem? (i := 122) (by decide +kernel), List.mem_of_getElem? (i := 579) (by decide +kernel), List.mem_of_getElem? (i := 580) (by decide +kernel)⟩
theorem lw_p13 : lw_okq (⟨"FourRods$Defence", "tryKeeper", "(III)V"⟩, 4) := ⟨⟨by decide +kernel, by decide +kernel⟩, List.mem_of_getElem? (i := 122) (by decide +kernel), List.mem_of_getElem? (i := 597) (by decide +kernel), List.mem_of_getElem? (i := 598) (by decide +kernel)⟩
theorem lw_p14 : lw_okq (⟨"FourRods$Sights", "fitsAll", "(I)Z"⟩, 5) := ⟨⟨by decide +kernel, by decide +kernel⟩, List.mem_of_getElem? (i := 143) (by decide +kernel), List.mem_of_getElem? (i := 711) (by decide +kernel), List.mem_of_getElem? (i := 712) (by decide +kernel)⟩
theorem lw_p15 : lw_okq (⟨"FourRods", "imageOf", "(I)LFourRods$Image;"⟩, 9) := ⟨⟨by decide +kernel, by decide +kernel⟩, List.mem_of_getElem? (i := 16) (by decide +kernel), List.mem_of_getElem? (i := 755) (by decide +kernel), List.mem_of_getElem? (i := 756) (by decide +kernel)⟩
def lw_privs_1 : List (MethodName × Nat) := [(⟨"FourRods$Pad", "takes", "(II)Z"⟩, 6), (⟨"FourRods$Pad", "nextSign", "()I"⟩, 6), (⟨"FourRods$Pad", "takesDigit", "(II)Z"⟩, 6), (⟨"FourRods$Pad", "takesRod", "()Z"⟩, 6), (⟨"FourRods$Pad", "takesWay", "()Z"⟩, 6), (⟨"FourRods$Pad", "takesHandling", "()Z"⟩, 6), (⟨"FourRods$Table", "isHeldWrongly", "(II)Z"⟩, 6), (⟨"FourRods$Table", "isNextMan", "(I)Z"⟩, 6), (⟨"FourRods$Table", "reachesGoal", "(II)Z"⟩, 6), (⟨"FourRods$Table", "endShot", "(I)V"⟩, 6), (⟨"FourRods", "playsThrough", "()Z"⟩, 9), (⟨"FourRods$Passes", "leads", "(LFourRods$Table;II)Z"⟩, 1), (⟨"FourRods$Defence", "shotsPastOthers", "(I)I"⟩, 4), (⟨"FourRods$Defence", "tryKeeper", "(III)V"⟩, 4), (⟨"FourRods$Sights", "fitsAll", "(I)Z"⟩, 5), (⟨"FourRods", "imageOf", "(I)LFourRods$Image;"⟩, 9)]
theorem lw_r1 : ∀ q ∈ lw_privs_1, lw_okq q := List.forall_mem_cons.mpr ⟨lw_p0, List.forall_mem_cons.mpr ⟨lw_p1, List.forall_mem_cons.mpr ⟨lw_p2, List.forall_mem_cons.mpr ⟨lw_p3, List.forall_mem_cons.mpr ⟨lw_p4, List.forall_mem_cons.mpr ⟨lw_p5, List.forall_mem_cons.mpr ⟨lw_p6, List.forall_mem_cons.mpr ⟨lw_p7, List.forall_mem_cons.mpr ⟨lw_p8, List.forall_mem_cons.mpr ⟨lw_p9, List.forall_mem_cons.mpr ⟨lw_p10, List.forall_mem_cons.mpr ⟨lw_p11, List.forall_mem_cons.mpr ⟨lw_p12, List.forall_mem_cons.mpr ⟨lw_p13, List.forall_mem_cons.mpr ⟨lw_p14, List.forall_mem_cons.mpr ⟨lw_p15, fun _ h => absurd h List.not_mem_nil⟩⟩⟩⟩⟩⟩⟩⟩⟩⟩⟩⟩⟩⟩⟩⟩
theorem lw_p16 : lw_okq (⟨"FourRods", "toldByNumber", "(I)I"⟩, 9) := ⟨⟨by decide +kernel, by decide +kernel⟩, List.mem_of_getElem? (i := 16) (by decide +kernel), List.mem_of_getElem? (i := 785) (by decide +kernel), List.mem_of_getElem? (i := 786) (by decide +kernel)⟩
theorem lw_p17 : lw_okq (⟨"FourRodsModel", "asNow", "()V"⟩, 18) := ⟨⟨by decide +kernel, by decide +kernel⟩, List.mem_of_getElem? (i := 790) (by decide +kernel), List.mem_of_getElem? (i := 882) (by decide +kernel), List.mem_of_getElem? (i := 883) (by decide +kernel)⟩
theorem lw_p18 : lw_okq (⟨"FourRodsModel", "held", "(II)I"⟩, 18) := ⟨⟨by decide +kernel, by decide +kernel⟩, List.mem_of_getElem? (i := 790) (by decide +kernel), List.mem_of_getElem? (i := 886) (by decide +kernel), List.mem_of_getElem? (i := 887) (by decide +kernel)⟩
theorem lw_p19 : lw_okq (⟨"FourRodsModel", "faultOf", "()I"⟩, 18) := ⟨⟨by decide +kernel, by decide +kernel⟩, List.mem_of_getElem? (i := 790) (by decide +kernel), List.mem_of_getElem? (i := 913) (by decide +kernel), List.mem_of_getElem? (i := 914) (by decide +kernel)⟩
theorem lw_p20 : lw_okq (⟨"FourRodsModel", "goEvenings", "()I"⟩, 18) := ⟨⟨by decide +kernel, by decide +kernel⟩, List.mem_of_getElem? (i := 790) (by decide +kernel), List.mem_of_getElem? (i := 924) (by decide +kernel), List.mem_of_getElem? (i := 925) (by decide +kernel)⟩
theorem lw_p21 : lw_okq (⟨"FourRodsModel", "nextAct", "()I"⟩, 18) := ⟨⟨by decide +kernel, by decide +kernel⟩, List.mem_of_getElem? (i := 790) (by decide +kernel), List.mem_of_getElem? (i := 928) (by decide +kernel), List.mem_of_getElem? (i := 929) (by decide +kernel)⟩
theorem lw_p22 : lw_okq (⟨"FourRodsModel", "endTenth", "()I"⟩, 18) := ⟨⟨by decide +kernel, by decide +kernel⟩, List.mem_of_getElem? (i := 790) (by decide +kernel), List.mem_of_getElem? (i := 932) (by decide +kernel), List.mem_of_getElem? (i := 933) (by decide +kernel)⟩
theorem lw_p23 : lw_okq (⟨"FourRodsModel", "isOver", "()Z"⟩, 18) := ⟨⟨by decide +kernel, by decide +kernel⟩, List.mem_of_getElem? (i := 790) (by decide +kernel), List.mem_of_getElem? (i := 936) (by decide +kernel), List.mem_of_getElem? (i := 937) (by decide +kernel)⟩
theorem lw_p24 : lw_okq (⟨"FourRodsModel", "passTo", "(I)I"⟩, 18) := ⟨⟨by decide +kernel, by decide +kernel⟩, List.mem_of_getElem? (i := 790) (by decide +kernel), List.mem_of_getElem? (i := 940) (by decide +kernel), List.mem_of_getElem? (i := 941) (by decide +kernel)⟩
theorem lw_p25 : lw_okq (⟨"FourRodsModel", "whyNot", "()I"⟩, 18) := ⟨⟨by decide +kernel, by decide +kernel⟩, List.mem_of_getElem? (i := 790) (by decide +kernel), List.mem_of_getElem? (i := 944) (by decide +kernel), List.mem_of_getElem? (i := 945) (by decide +kernel)⟩
theorem lw_p26 : lw_okq (⟨"FourRodsModel", "passOver", "(I)I"⟩, 18) := ⟨⟨by decide +kernel, by decide +kernel⟩, List.mem_of_getElem? (i := 790) (by decide +kernel), List.mem_of_getElem? (i := 948) (by decide +kernel), List.mem_of_getElem? (i := 949) (by decide +kernel)⟩
theorem lw_p27 : lw_okq (⟨"FourRodsModel", "overBy", "(III)I"⟩, 18) := ⟨⟨by decide +kernel, by decide +kernel⟩, List.mem_of_getElem? (i := 790) (by decide +kernel), List.mem_of_getElem? (i := 952) (by decide +kernel), List.mem_of_getElem? (i := 953) (by decide +kernel)⟩
theorem lw_p28 : lw_okq (⟨"FourRodsModel", "standsAt", "(II)I"⟩, 18) := ⟨⟨by decide +kernel, by decide +kernel⟩, List.mem_of_getElem? (i := 790) (by decide +kernel), List.mem_of_getElem? (i := 956) (by decide +kernel), List.mem_of_getElem? (i := 957) (by decide +kernel)⟩
theorem lw_p29 : lw_okq (⟨"FourRodsModel", "covers", "(II)I"⟩, 18) := ⟨⟨by decide +kernel, by decide +kernel⟩, List.mem_of_getElem? (i := 790) (by decide +kernel), List.mem_of_getElem? (i := 960) (by decide +kernel), List.mem_of_getElem? (i := 961) (by decide +kernel)⟩
theorem lw_p30 : lw_okq (⟨"FourRodsModel", "shoot", "(I)I"⟩, 18) := ⟨⟨by decide +kernel, by decide +kernel⟩, List.mem_of_getElem? (i := 790) (by decide +kernel), List.mem_of_getElem? (i := 964) (by decide +kernel), List.mem_of_getElem? (i := 965) (by decide +kernel)⟩
theorem lw_p31 : lw_okq (⟨"FourRodsModel", "shotBy", "(I)I"⟩, 18) := ⟨⟨by decide +kernel, by decide +kernel⟩, List.mem_of_getElem? (i := 790) (by decide +kernel), List.mem_of_getElem? (i := 968) (by decide +kernel), List.mem_of_getElem? (i := 969) (by decide +kernel)⟩
def lw_privs_2 : List (MethodName × Nat) := [(⟨"FourRods", "toldByNumber", "(I)I"⟩, 9), (⟨"FourRodsModel", "asNow", "()V"⟩, 18), (⟨"FourRodsModel", "held", "(II)I"⟩, 18), (⟨"FourRodsModel", "faultOf", "()I"⟩, 18), (⟨"FourRodsModel", "goEvenings", "()I"⟩, 18), (⟨"FourRodsModel", "nextAct", "()I"⟩, 18), (⟨"FourRodsModel", "endTenth", "()I"⟩, 18), (⟨"FourRodsModel", "isOver", "()Z"⟩, 18), (⟨"FourRodsModel", "passTo", "(I)I"⟩, 18), (⟨"FourRodsModel", "whyNot", "()I"⟩, 18), (⟨"FourRodsModel", "passOver", "(I)I"⟩, 18), (⟨"FourRodsModel", "overBy", "(III)I"⟩, 18), (⟨"FourRodsModel", "standsAt", "(II)I"⟩, 18), (⟨"FourRodsModel", "covers", "(II)I"⟩, 18), (⟨"FourRodsModel", "shoot", "(I)I"⟩, 18), (⟨"FourRodsModel", "shotBy", "(I)I"⟩, 18)]
theorem lw_r2 : ∀ q ∈ lw_privs_2, lw_okq q := List.forall_mem_cons.mpr ⟨lw_p16, List.forall_mem_cons.mpr ⟨lw_p17, List.forall_mem_cons.mpr ⟨lw_p18, List.forall_mem_cons.mpr ⟨lw_p19, List.forall_mem_cons.mpr ⟨lw_p20, List.forall_mem_cons.mpr ⟨lw_p21, List.forall_mem_cons.mpr ⟨lw_p22, List.forall_mem_cons.mpr ⟨lw_p23, List.forall_mem_cons.mpr ⟨lw_p24, List.forall_mem_cons.mpr ⟨lw_p25, List.forall_mem_cons.mpr ⟨lw_p26, List.forall_mem_cons.mpr ⟨lw_p27, List.forall_mem_cons.mpr ⟨lw_p28, List.forall_mem_cons.mpr ⟨lw_p29, List.forall_mem_cons.mpr ⟨lw_p30, List.forall_mem_cons.mpr ⟨lw_p31, fun _ h => absurd h List.not_mem_nil⟩⟩⟩⟩⟩⟩⟩⟩⟩⟩⟩⟩⟩⟩⟩⟩
theorem lw_p32 : lw_okq (⟨"FourRodsModel", "throwIn", "(II)I"⟩, 18) := ⟨⟨by decide +kernel, by decide +kernel⟩, List.mem_of_getElem? (i := 790) (by decide +kernel), List.mem_of_getElem? (i := 972) (by decide +kernel), List.mem_of_getElem? (i := 973) (by decide +kernel)⟩
theorem lw_p33 : lw_okq (⟨"FourRodsModel", "rodAct", "(I)I"⟩, 18) := ⟨⟨by decide +kernel, by decide +kernel⟩, List.mem_of_getElem? (i := 790) (by decide +kernel), List.mem_of_getElem? (i := 976) (by decide +kernel), List.mem_of_getElem? (i := 977) (by decide +kernel)⟩
theorem lw_p34 : lw_okq (⟨"FourRodsModel", "grasp", "(I)I"⟩, 18) := ⟨⟨by decide +kernel, by decide +kernel⟩, List.mem_of_getElem? (i := 790) (by decide +kernel), List.mem_of_getElem? (i := 980) (by decide +kernel), List.mem_of_getElem? (i := 981) (by decide +kernel)⟩
theorem lw_p35 : lw_okq (⟨"FourRodsModel", "letGo", "(I)I"⟩, 18) := ⟨⟨by decide +kernel, by decide +kernel⟩, List.mem_of_getElem? (i := 790) (by decide +kernel), List.mem_of_getElem? (i := 984) (by decide +kernel), List.mem_of_getElem? (i := 985) (by decide +kernel)⟩
theorem lw_p36 : lw_okq (⟨"FourRodsModel", "slideBy", "(II)I"⟩, 18) := ⟨⟨by decide +kernel, by decide +kernel⟩, List.mem_of_getElem? (i := 790) (by decide +kernel), List.mem_of_getElem? (i := 988) (by decide +kernel), List.mem_of_getElem? (i := 989) (by decide +kernel)⟩
theorem lw_p37 : lw_okq (⟨"FourRodsModel", "barOfEvenings", "()I"⟩, 18) := ⟨⟨by decide +kernel, by decide +kernel⟩, List.mem_of_getElem? (i := 790) (by decide +kernel), List.mem_of_getElem? (i := 996) (by decide +kernel), List.mem_of_getElem? (i := 997) (by decide +kernel)⟩
theorem lw_p38 : lw_okq (⟨"FourRodsModel", "allIn", "()I"⟩, 18) := ⟨⟨by decide +kernel, by decide +kernel⟩, List.mem_of_getElem? (i := 790) (by decide +kernel), List.mem_of_getElem? (i := 1016) (by decide +kernel), List.mem_of_getElem? (i := 1017) (by decide +kernel)⟩
theorem lw_p39 : lw_okq (⟨"FourRodsModel", "passes", "(IIII)Z"⟩, 18) := ⟨⟨by decide +kernel, by decide +kernel⟩, List.mem_of_getElem? (i := 790) (by decide +kernel), List.mem_of_getElem? (i := 1025) (by decide +kernel), List.mem_of_getElem? (i := 1026) (by decide +kernel)⟩
theorem lw_p40 : lw_okq (⟨"FourRodsModel", "isFit", "(I)Z"⟩, 18) := ⟨⟨by decide +kernel, by decide +kernel⟩, List.mem_of_getElem? (i := 790) (by decide +kernel), List.mem_of_getElem? (i := 1073) (by decide +kernel), List.mem_of_getElem? (i := 1074) (by decide +kernel)⟩
def lw_privs_3 : List (MethodName × Nat) := [(⟨"FourRodsModel", "throwIn", "(II)I"⟩, 18), (⟨"FourRodsModel", "rodAct", "(I)I"⟩, 18), (⟨"FourRodsModel", "grasp", "(I)I"⟩, 18), (⟨"FourRodsModel", "letGo", "(I)I"⟩, 18), (⟨"FourRodsModel", "slideBy", "(II)I"⟩, 18), (⟨"FourRodsModel", "barOfEvenings", "()I"⟩, 18), (⟨"FourRodsModel", "allIn", "()I"⟩, 18), (⟨"FourRodsModel", "passes", "(IIII)Z"⟩, 18), (⟨"FourRodsModel", "isFit", "(I)Z"⟩, 18)]
theorem lw_r3 : ∀ q ∈ lw_privs_3, lw_okq q := List.forall_mem_cons.mpr ⟨lw_p32, List.forall_mem_cons.mpr ⟨lw_p33, List.forall_mem_cons.mpr ⟨lw_p34, List.forall_mem_cons.mpr ⟨lw_p35, List.forall_mem_cons.mpr ⟨lw_p36, List.forall_mem_cons.mpr ⟨lw_p37, List.forall_mem_cons.mpr ⟨lw_p38, List.forall_mem_cons.mpr ⟨lw_p39, List.forall_mem_cons.mpr ⟨lw_p40, fun _ h => absurd h List.not_mem_nil⟩⟩⟩⟩⟩⟩⟩⟩⟩
def lw_privs : List (MethodName × Nat) := lw_privs_1 ++ (lw_privs_2 ++ (lw_privs_3))
def lw_tbl : List Cond := k2_sels lw_privs ++ tables_1
theorem lw_privs_ok : ∀ q ∈ lw_privs, lw_okq q := by
  show ∀ q ∈ lw_privs_1 ++ (lw_privs_2 ++ (lw_privs_3)), lw_okq q
  exact List.forall_mem_append.mpr ⟨lw_r1, List.forall_mem_append.mpr ⟨lw_r2, lw_r3⟩⟩
end
section
-- names, classes, methods (by wip/whole/gen.py out of what TURN printed)
def RX1 : String := "FourRods$Defence"
def RX2 : String := "FourRods$Evening"
def RX4 : String := "FourRods$Image"
def RX5 : String := "FourRods$Pad"
def RX6 : String := "FourRods$Passes"
def RX8 : String := "FourRods$Sights"
def RX9 : String := "FourRods$Table"
def RX10 : String := "FourRods"
def RX11 : String := "FourRodsModel"
def RX0 : String := "FourRods$Chances"
def RX3 : String := "FourRods$Grasps"
def RX7 : String := "FourRods$Rods"
def RL : String := "FourRodsLaw"
def RJ6 : String := "java/lang/Integer"
def RJ9 : String := "java/lang/Math"
def TX1 : u_T := fun k => match k with
  | 0 => ("FourRods$Defence", "trial", "LFourRods$Table;", true)
  | 1 => ("FourRods$Defence", "pastBacks", "[I", true)
  | 2 => ("FourRods$Defence", "letIn", "I", false)
  | _ => ("FourRods$Defence", "slides", "I", false)
def tyX1 : Nat → FieldType := fun k => match k with
  | 0 => .object "FourRods$Table"
  | 1 => .array .int
  | 2 => .int
  | _ => .int
theorem nmX1 : ∀ a, a < 4 → ∀ b, b < 4 → a ≠ b → (TX1 a).2.1 ≠ (TX1 b).2.1 := by decide +kernel
theorem tyX1_ok : ∀ k, k < 4 → parseFieldDescriptor (TX1 k).2.2.1 = some (tyX1 k) := by decide +kernel
def TX2 : u_T := fun k => match k with
  | 0 => ("FourRods$Evening", "table", "LFourRods$Table;", true)
  | 1 => ("FourRods$Evening", "acts", "I", false)
  | 2 => ("FourRods$Evening", "stoppedAt", "I", false)
  | 3 => ("FourRods$Evening", "reason", "I", false)
  | _ => ("FourRods$Evening", "firstGoal", "I", false)
def tyX2 : Nat → FieldType := fun k => match k with
  | 0 => .object "FourRods$Table"
  | 1 => .int
  | 2 => .int
  | 3 => .int
  | _ => .int
theorem nmX2 : ∀ a, a < 5 → ∀ b, b < 5 → a ≠ b → (TX2 a).2.1 ≠ (TX2 b).2.1 := by decide +kernel
theorem tyX2_ok : ∀ k, k < 5 → parseFieldDescriptor (TX2 k).2.2.1 = some (tyX2 k) := by decide +kernel
def TX4 : u_T := fun k => match k with
  | 0 => ("FourRods$Image", "table", "LFourRods$Table;", true)
  | 1 => ("FourRods$Image", "sights", "LFourRods$Sights;", true)
  | _ => ("FourRods$Image", "isKept", "Z", false)
def tyX4 : Nat → FieldType := fun k => match k with
  | 0 => .object "FourRods$Table"
  | 1 => .object "FourRods$Sights"
  | _ => .boolean
theorem nmX4 : ∀ a, a < 3 → ∀ b, b < 3 → a ≠ b → (TX4 a).2.1 ≠ (TX4 b).2.1 := by decide +kernel
theorem tyX4_ok : ∀ k, k < 3 → parseFieldDescriptor (TX4 k).2.2.1 = some (tyX4 k) := by decide +kernel
def TX5 : u_T := fun k => match k with
  | 0 => ("FourRods$Pad", "signs", "[I", true)
  | 1 => ("FourRods$Pad", "count", "I", false)
  | 2 => ("FourRods$Pad", "place", "I", false)
  | 3 => ("FourRods$Pad", "kind", "I", false)
  | 4 => ("FourRods$Pad", "rod", "I", false)
  | _ => ("FourRods$Pad", "number", "I", false)
def tyX5 : Nat → FieldType := fun k => match k with
  | 0 => .array .int
  | 1 => .int
  | 2 => .int
  | 3 => .int
  | 4 => .int
  | _ => .int
theorem nmX5 : ∀ a, a < 6 → ∀ b, b < 6 → a ≠ b → (TX5 a).2.1 ≠ (TX5 b).2.1 := by decide +kernel
theorem tyX5_ok : ∀ k, k < 6 → parseFieldDescriptor (TX5 k).2.2.1 = some (tyX5 k) := by decide +kernel
def TX6 : u_T := fun k => match k with
  | _ => ("FourRods$Passes", "counts", "[I", true)
def tyX6 : Nat → FieldType := fun k => match k with
  | _ => .array .int
theorem nmX6 : ∀ a, a < 1 → ∀ b, b < 1 → a ≠ b → (TX6 a).2.1 ≠ (TX6 b).2.1 := by decide +kernel
theorem tyX6_ok : ∀ k, k < 1 → parseFieldDescriptor (TX6 k).2.2.1 = some (tyX6 k) := by decide +kernel
def TX8 : u_T := fun k => match k with
  | 0 => ("FourRods$Sights", "shots", "[I", true)
  | 1 => ("FourRods$Sights", "sides", "[I", true)
  | 2 => ("FourRods$Sights", "rows", "[I", true)
  | 3 => ("FourRods$Sights", "count", "I", false)
  | _ => ("FourRods$Sights", "found", "I", false)
def tyX8 : Nat → FieldType := fun k => match k with
  | 0 => .array .int
  | 1 => .array .int
  | 2 => .array .int
  | 3 => .int
  | _ => .int
theorem nmX8 : ∀ a, a < 5 → ∀ b, b < 5 → a ≠ b → (TX8 a).2.1 ≠ (TX8 b).2.1 := by decide +kernel
theorem tyX8_ok : ∀ k, k < 5 → parseFieldDescriptor (TX8 k).2.2.1 = some (tyX8 k) := by decide +kernel
def TX9 : u_T := fun k => match k with
  | 0 => ("FourRods$Table", "slides", "[I", true)
  | 1 => ("FourRods$Table", "scored", "[I", true)
  | 2 => ("FourRods$Table", "heldRods", "I", false)
  | 3 => ("FourRods$Table", "ballRod", "I", false)
  | 4 => ("FourRods$Table", "ballMan", "I", false)
  | _ => ("FourRods$Table", "tenth", "I", false)
def tyX9 : Nat → FieldType := fun k => match k with
  | 0 => .array .int
  | 1 => .array .int
  | 2 => .int
  | 3 => .int
  | 4 => .int
  | _ => .int
theorem nmX9 : ∀ a, a < 6 → ∀ b, b < 6 → a ≠ b → (TX9 a).2.1 ≠ (TX9 b).2.1 := by decide +kernel
theorem tyX9_ok : ∀ k, k < 6 → parseFieldDescriptor (TX9 k).2.2.1 = some (tyX9 k) := by decide +kernel
def TX10 : u_T := fun k => match k with
  | 0 => ("FourRods", "now", "LFourRods$Table;", true)
  | 1 => ("FourRods", "pad", "LFourRods$Pad;", true)
  | 2 => ("FourRods", "evening", "LFourRods$Evening;", true)
  | 3 => ("FourRods", "passes", "LFourRods$Passes;", true)
  | 4 => ("FourRods", "defence", "LFourRods$Defence;", true)
  | 5 => ("FourRods", "sights", "LFourRods$Sights;", true)
  | 6 => ("FourRods", "firstImage", "LFourRods$Image;", true)
  | 7 => ("FourRods", "secondImage", "LFourRods$Image;", true)
  | _ => ("FourRods", "drawn", "LFourRods$Table;", true)
def tyX10 : Nat → FieldType := fun k => match k with
  | 0 => .object "FourRods$Table"
  | 1 => .object "FourRods$Pad"
  | 2 => .object "FourRods$Evening"
  | 3 => .object "FourRods$Passes"
  | 4 => .object "FourRods$Defence"
  | 5 => .object "FourRods$Sights"
  | 6 => .object "FourRods$Image"
  | 7 => .object "FourRods$Image"
  | _ => .object "FourRods$Table"
theorem nmX10 : ∀ a, a < 9 → ∀ b, b < 9 → a ≠ b → (TX10 a).2.1 ≠ (TX10 b).2.1 := by decide +kernel
theorem tyX10_ok : ∀ k, k < 9 → parseFieldDescriptor (TX10 k).2.2.1 = some (tyX10 k) := by decide +kernel
def TX11 : u_T := fun k => match k with
  | 0 => ("FourRodsModel", "book", "[I", true)
  | 1 => ("FourRodsModel", "now", "[I", true)
  | 2 => ("FourRodsModel", "sights", "I", false)
  | 3 => ("FourRodsModel", "sight", "[I", true)
  | 4 => ("FourRodsModel", "signs", "I", false)
  | 5 => ("FourRodsModel", "pad", "[I", true)
  | 6 => ("FourRodsModel", "shotMan", "I", false)
  | 7 => ("FourRodsModel", "overMan", "I", false)
  | 8 => ("FourRodsModel", "goalAt", "I", false)
  | 9 => ("FourRodsModel", "reason", "I", false)
  | 10 => ("FourRodsModel", "acts", "I", false)
  | 11 => ("FourRodsModel", "at", "I", false)
  | 12 => ("FourRodsModel", "far", "[I", true)
  | 13 => ("FourRodsModel", "grasps", "[I", true)
  | 14 => ("FourRodsModel", "nextGrasps", "[I", true)
  | 15 => ("FourRodsModel", "ways", "[J", true)
  | 16 => ("FourRodsModel", "image", "[I", true)
  | _ => ("FourRodsModel", "isKept", "[Z", true)
def tyX11 : Nat → FieldType := fun k => match k with
  | 0 => .array .int
  | 1 => .array .int
  | 2 => .int
  | 3 => .array .int
  | 4 => .int
  | 5 => .array .int
  | 6 => .int
  | 7 => .int
  | 8 => .int
  | 9 => .int
  | 10 => .int
  | 11 => .int
  | 12 => .array .int
  | 13 => .array .int
  | 14 => .array .int
  | 15 => .array .long
  | 16 => .array .int
  | _ => .array .boolean
theorem nmX11 : ∀ a, a < 18 → ∀ b, b < 18 → a ≠ b → (TX11 a).2.1 ≠ (TX11 b).2.1 := by decide +kernel
theorem tyX11_ok : ∀ k, k < 18 → parseFieldDescriptor (TX11 k).2.2.1 = some (tyX11 k) := by decide +kernel
def CN : List String := [RX1, RX2, RX4, RX5, RX6, RX8, RX9, RX10, RX11, RX0, RX3, RX7, RL, RJ6, RJ9]
def CL : List vw_C := [(RX1, TX1, 4), (RX2, TX2, 5), (RX4, TX4, 3), (RX5, TX5, 6), (RX6, TX6, 1), (RX8, TX8, 5), (RX9, TX9, 6), (RX10, TX10, 9), (RX11, TX11, 18)]
def y_Chances_part : MethodName := ⟨RX0, "part", "(JJI)J"⟩
abbrev m_Chances_part : Nat := 0
def y_Chances_commonDivisor : MethodName := ⟨RX0, "commonDivisor", "(JJ)J"⟩
abbrev m_Chances_commonDivisor : Nat := 1
def y_Chances_mixed : MethodName := ⟨RX0, "mixed", "(IIIIII)J"⟩
abbrev m_Chances_mixed : Nat := 2
def y_Chances_mixedInOrder : MethodName := ⟨RX0, "mixedInOrder", "(IIIIII)J"⟩
abbrev m_Chances_mixedInOrder : Nat := 3
def y_Chances_isTheFirst : MethodName := ⟨RX0, "isTheFirst", "(IIIII)J"⟩
abbrev m_Chances_isTheFirst : Nat := 4
def y_Chances_winsRace : MethodName := ⟨RX0, "winsRace", "(IIII)J"⟩
abbrev m_Chances_winsRace : Nat := 5
def y_Chances_power : MethodName := ⟨RX0, "power", "(II)J"⟩
abbrev m_Chances_power : Nat := 6
def y_Defence_init : MethodName := ⟨RX1, "<init>", "()V"⟩
abbrev m_Defence_init : Nat := 7
def y_Defence_letIn : MethodName := ⟨RX1, "letIn", "()I"⟩
abbrev m_Defence_letIn : Nat := 8
def y_Defence_slides : MethodName := ⟨RX1, "slides", "()I"⟩
abbrev m_Defence_slides : Nat := 9
def y_Defence_place : MethodName := ⟨RX1, "place", "(LFourRods$Table;)V"⟩
abbrev m_Defence_place : Nat := 10
def y_Defence_shotsPastOthers : MethodName := ⟨RX1, "shotsPastOthers", "(I)I"⟩
abbrev m_Defence_shotsPastOthers : Nat := 11
def y_Defence_tryKeeper : MethodName := ⟨RX1, "tryKeeper", "(III)V"⟩
abbrev m_Defence_tryKeeper : Nat := 12
def y_Evening_init : MethodName := ⟨RX2, "<init>", "()V"⟩
abbrev m_Evening_init : Nat := 13
def y_Evening_table : MethodName := ⟨RX2, "table", "()LFourRods$Table;"⟩
abbrev m_Evening_table : Nat := 14
def y_Evening_acts : MethodName := ⟨RX2, "acts", "()I"⟩
abbrev m_Evening_acts : Nat := 15
def y_Evening_stoppedAt : MethodName := ⟨RX2, "stoppedAt", "()I"⟩
abbrev m_Evening_stoppedAt : Nat := 16
def y_Evening_reason : MethodName := ⟨RX2, "reason", "()I"⟩
abbrev m_Evening_reason : Nat := 17
def y_Evening_firstGoal : MethodName := ⟨RX2, "firstGoal", "()I"⟩
abbrev m_Evening_firstGoal : Nat := 18
def y_Evening_play : MethodName := ⟨RX2, "play", "(LFourRods$Table;LFourRods$Pad;)V"⟩
abbrev m_Evening_play : Nat := 19
def y_Grasps_isRow : MethodName := ⟨RX3, "isRow", "(II)Z"⟩
abbrev m_Grasps_isRow : Nat := 20
def y_Grasps_fewest : MethodName := ⟨RX3, "fewest", "(II)I"⟩
abbrev m_Grasps_fewest : Nat := 21
def y_Grasps_needed : MethodName := ⟨RX3, "needed", "(III)I"⟩
abbrev m_Grasps_needed : Nat := 22
def y_Grasps_latest : MethodName := ⟨RX3, "latest", "(IIII)I"⟩
abbrev m_Grasps_latest : Nat := 23
def y_Grasps_nextNeed : MethodName := ⟨RX3, "nextNeed", "(IIII)I"⟩
abbrev m_Grasps_nextNeed : Nat := 24
def y_Image_init : MethodName := ⟨RX4, "<init>", "()V"⟩
abbrev m_Image_init : Nat := 25
def y_Image_keep : MethodName := ⟨RX4, "keep", "(LFourRods$Table;LFourRods$Sights;)V"⟩
abbrev m_Image_keep : Nat := 26
def y_Image_giveBack : MethodName := ⟨RX4, "giveBack", "(LFourRods$Table;LFourRods$Sights;)Z"⟩
abbrev m_Image_giveBack : Nat := 27
def y_Pad_init : MethodName := ⟨RX5, "<init>", "()V"⟩
abbrev m_Pad_init : Nat := 28
def y_Pad_size : MethodName := ⟨RX5, "size", "()I"⟩
abbrev m_Pad_size : Nat := 29
def y_Pad_add : MethodName := ⟨RX5, "add", "(I)Z"⟩
abbrev m_Pad_add : Nat := 30
def y_Pad_clear : MethodName := ⟨RX5, "clear", "()V"⟩
abbrev m_Pad_clear : Nat := 31
def y_Pad_rewind : MethodName := ⟨RX5, "rewind", "()V"⟩
abbrev m_Pad_rewind : Nat := 32
def y_Pad_isReadOut : MethodName := ⟨RX5, "isReadOut", "()Z"⟩
abbrev m_Pad_isReadOut : Nat := 33
def y_Pad_kind : MethodName := ⟨RX5, "kind", "()I"⟩
abbrev m_Pad_kind : Nat := 34
def y_Pad_rod : MethodName := ⟨RX5, "rod", "()I"⟩
abbrev m_Pad_rod : Nat := 35
def y_Pad_number : MethodName := ⟨RX5, "number", "()I"⟩
abbrev m_Pad_number : Nat := 36
def y_Pad_faultPlace : MethodName := ⟨RX5, "faultPlace", "()I"⟩
abbrev m_Pad_faultPlace : Nat := 37
def y_Pad_readAct : MethodName := ⟨RX5, "readAct", "()Z"⟩
abbrev m_Pad_readAct : Nat := 38
def y_Pad_takesHandling : MethodName := ⟨RX5, "takesHandling", "()Z"⟩
abbrev m_Pad_takesHandling : Nat := 39
def y_Pad_takesWay : MethodName := ⟨RX5, "takesWay", "()Z"⟩
abbrev m_Pad_takesWay : Nat := 40
def y_Pad_takes : MethodName := ⟨RX5, "takes", "(II)Z"⟩
abbrev m_Pad_takes : Nat := 41
def y_Pad_takesRod : MethodName := ⟨RX5, "takesRod", "()Z"⟩
abbrev m_Pad_takesRod : Nat := 42
def y_Pad_takesDigit : MethodName := ⟨RX5, "takesDigit", "(II)Z"⟩
abbrev m_Pad_takesDigit : Nat := 43
def y_Pad_nextSign : MethodName := ⟨RX5, "nextSign", "()I"⟩
abbrev m_Pad_nextSign : Nat := 44
def y_Passes_init : MethodName := ⟨RX6, "<init>", "()V"⟩
abbrev m_Passes_init : Nat := 45
def y_Passes_from : MethodName := ⟨RX6, "from", "(I)I"⟩
abbrev m_Passes_from : Nat := 46
def y_Passes_countTo : MethodName := ⟨RX6, "countTo", "(LFourRods$Table;I)V"⟩
abbrev m_Passes_countTo : Nat := 47
def y_Passes_leads : MethodName := ⟨RX6, "leads", "(LFourRods$Table;II)Z"⟩
abbrev m_Passes_leads : Nat := 48
def y_Passes_firstFrom : MethodName := ⟨RX6, "firstFrom", "(LFourRods$Table;I)I"⟩
abbrev m_Passes_firstFrom : Nat := 49
def y_Passes_receiver : MethodName := ⟨RX6, "receiver", "(LFourRods$Table;II)I"⟩
abbrev m_Passes_receiver : Nat := 50
def y_Passes_ownOnly : MethodName := ⟨RX6, "ownOnly", "(II)I"⟩
abbrev m_Passes_ownOnly : Nat := 51
def y_Rods_isRod : MethodName := ⟨RX7, "isRod", "(I)Z"⟩
abbrev m_Rods_isRod : Nat := 52
def y_Rods_isMan : MethodName := ⟨RX7, "isMan", "(II)Z"⟩
abbrev m_Rods_isMan : Nat := 53
def y_Rods_sideOf : MethodName := ⟨RX7, "sideOf", "(I)I"⟩
abbrev m_Rods_sideOf : Nat := 54
def y_Rods_menOf : MethodName := ⟨RX7, "menOf", "(I)I"⟩
abbrev m_Rods_menOf : Nat := 55
def y_Rods_gapOf : MethodName := ⟨RX7, "gapOf", "(I)I"⟩
abbrev m_Rods_gapOf : Nat := 56
def y_Rods_lastSlide : MethodName := ⟨RX7, "lastSlide", "(I)I"⟩
abbrev m_Rods_lastSlide : Nat := 57
def y_Rods_isOf : MethodName := ⟨RX7, "isOf", "(II)Z"⟩
abbrev m_Rods_isOf : Nat := 58
def y_Rods_keeperOf : MethodName := ⟨RX7, "keeperOf", "(I)I"⟩
abbrev m_Rods_keeperOf : Nat := 59
def y_Rods_backsOf : MethodName := ⟨RX7, "backsOf", "(I)I"⟩
abbrev m_Rods_backsOf : Nat := 60
def y_Rods_stepToGoalOf : MethodName := ⟨RX7, "stepToGoalOf", "(I)I"⟩
abbrev m_Rods_stepToGoalOf : Nat := 61
def y_Sights_init : MethodName := ⟨RX8, "<init>", "()V"⟩
abbrev m_Sights_init : Nat := 62
def y_Sights_size : MethodName := ⟨RX8, "size", "()I"⟩
abbrev m_Sights_size : Nat := 63
def y_Sights_add : MethodName := ⟨RX8, "add", "(IZ)Z"⟩
abbrev m_Sights_add : Nat := 64
def y_Sights_clear : MethodName := ⟨RX8, "clear", "()V"⟩
abbrev m_Sights_clear : Nat := 65
def y_Sights_copyFrom : MethodName := ⟨RX8, "copyFrom", "(LFourRods$Sights;)V"⟩
abbrev m_Sights_copyFrom : Nat := 66
def y_Sights_findRows : MethodName := ⟨RX8, "findRows", "()I"⟩
abbrev m_Sights_findRows : Nat := 67
def y_Sights_rowFound : MethodName := ⟨RX8, "rowFound", "(I)I"⟩
abbrev m_Sights_rowFound : Nat := 68
def y_Sights_bestShot : MethodName := ⟨RX8, "bestShot", "()I"⟩
abbrev m_Sights_bestShot : Nat := 69
def y_Sights_mostLeft : MethodName := ⟨RX8, "mostLeft", "(I)I"⟩
abbrev m_Sights_mostLeft : Nat := 70
def y_Sights_isRow : MethodName := ⟨RX8, "isRow", "(I)Z"⟩
abbrev m_Sights_isRow : Nat := 71
def y_Sights_fitsAll : MethodName := ⟨RX8, "fitsAll", "(I)Z"⟩
abbrev m_Sights_fitsAll : Nat := 72
def y_Sights_sideBy : MethodName := ⟨RX8, "sideBy", "(II)I"⟩
abbrev m_Sights_sideBy : Nat := 73
def y_Table_init : MethodName := ⟨RX9, "<init>", "()V"⟩
abbrev m_Table_init : Nat := 74
def y_Table_copyFrom : MethodName := ⟨RX9, "copyFrom", "(LFourRods$Table;)V"⟩
abbrev m_Table_copyFrom : Nat := 75
def y_Table_slideOf : MethodName := ⟨RX9, "slideOf", "(I)I"⟩
abbrev m_Table_slideOf : Nat := 76
def y_Table_slideTo : MethodName := ⟨RX9, "slideTo", "(II)V"⟩
abbrev m_Table_slideTo : Nat := 77
def y_Table_scoredBy : MethodName := ⟨RX9, "scoredBy", "(I)I"⟩
abbrev m_Table_scoredBy : Nat := 78
def y_Table_setScored : MethodName := ⟨RX9, "setScored", "(II)V"⟩
abbrev m_Table_setScored : Nat := 79
def y_Table_scoredInAll : MethodName := ⟨RX9, "scoredInAll", "()I"⟩
abbrev m_Table_scoredInAll : Nat := 80
def y_Table_heldRods : MethodName := ⟨RX9, "heldRods", "()I"⟩
abbrev m_Table_heldRods : Nat := 81
def y_Table_isHeld : MethodName := ⟨RX9, "isHeld", "(I)Z"⟩
abbrev m_Table_isHeld : Nat := 82
def y_Table_heldBy : MethodName := ⟨RX9, "heldBy", "(I)I"⟩
abbrev m_Table_heldBy : Nat := 83
def y_Table_setHeld : MethodName := ⟨RX9, "setHeld", "(IZ)V"⟩
abbrev m_Table_setHeld : Nat := 84
def y_Table_tenth : MethodName := ⟨RX9, "tenth", "()I"⟩
abbrev m_Table_tenth : Nat := 85
def y_Table_isDead : MethodName := ⟨RX9, "isDead", "()Z"⟩
abbrev m_Table_isDead : Nat := 86
def y_Table_ballRod : MethodName := ⟨RX9, "ballRod", "()I"⟩
abbrev m_Table_ballRod : Nat := 87
def y_Table_ballMan : MethodName := ⟨RX9, "ballMan", "()I"⟩
abbrev m_Table_ballMan : Nat := 88
def y_Table_ballPlace : MethodName := ⟨RX9, "ballPlace", "()I"⟩
abbrev m_Table_ballPlace : Nat := 89
def y_Table_loseBall : MethodName := ⟨RX9, "loseBall", "()V"⟩
abbrev m_Table_loseBall : Nat := 90
def y_Table_giveBall : MethodName := ⟨RX9, "giveBall", "(I)V"⟩
abbrev m_Table_giveBall : Nat := 91
def y_Table_placeOf : MethodName := ⟨RX9, "placeOf", "(II)I"⟩
abbrev m_Table_placeOf : Nat := 92
def y_Table_covererOf : MethodName := ⟨RX9, "covererOf", "(II)I"⟩
abbrev m_Table_covererOf : Nat := 93
def y_Table_nearestOf : MethodName := ⟨RX9, "nearestOf", "(II)I"⟩
abbrev m_Table_nearestOf : Nat := 94
def y_Table_overFrom : MethodName := ⟨RX9, "overFrom", "(III)I"⟩
abbrev m_Table_overFrom : Nat := 95
def y_Table_shotEnd : MethodName := ⟨RX9, "shotEnd", "(I)I"⟩
abbrev m_Table_shotEnd : Nat := 96
def y_Table_reachesGoal : MethodName := ⟨RX9, "reachesGoal", "(II)Z"⟩
abbrev m_Table_reachesGoal : Nat := 97
def y_Table_shotsToGoal : MethodName := ⟨RX9, "shotsToGoal", "()I"⟩
abbrev m_Table_shotsToGoal : Nat := 98
def y_Table_shotsPast : MethodName := ⟨RX9, "shotsPast", "(I)I"⟩
abbrev m_Table_shotsPast : Nat := 99
def y_Table_bounced : MethodName := ⟨RX9, "bounced", "(I)I"⟩
abbrev m_Table_bounced : Nat := 100
def y_Table_whyNot : MethodName := ⟨RX9, "whyNot", "(III)I"⟩
abbrev m_Table_whyNot : Nat := 101
def y_Table_isPlayed : MethodName := ⟨RX9, "isPlayed", "(I)Z"⟩
abbrev m_Table_isPlayed : Nat := 102
def y_Table_isHeldWrongly : MethodName := ⟨RX9, "isHeldWrongly", "(II)Z"⟩
abbrev m_Table_isHeldWrongly : Nat := 103
def y_Table_isNextMan : MethodName := ⟨RX9, "isNextMan", "(I)Z"⟩
abbrev m_Table_isNextMan : Nat := 104
def y_Table_perform : MethodName := ⟨RX9, "perform", "(III)V"⟩
abbrev m_Table_perform : Nat := 105
def y_Table_endShot : MethodName := ⟨RX9, "endShot", "(I)V"⟩
abbrev m_Table_endShot : Nat := 106
def y_Table_tryDrawn : MethodName := ⟨RX9, "tryDrawn", "(I)V"⟩
abbrev m_Table_tryDrawn : Nat := 107
def y_Table_drawnNumber : MethodName := ⟨RX9, "drawnNumber", "(II)I"⟩
abbrev m_Table_drawnNumber : Nat := 108
def y_F_init : MethodName := ⟨RX10, "<init>", "()V"⟩
abbrev m_F_init : Nat := 109
def y_F_slide : MethodName := ⟨RX10, "slide", "(II)I"⟩
abbrev m_F_slide : Nat := 110
def y_F_hold : MethodName := ⟨RX10, "hold", "(IZ)I"⟩
abbrev m_F_hold : Nat := 111
def y_F_ball : MethodName := ⟨RX10, "ball", "(II)I"⟩
abbrev m_F_ball : Nat := 112
def y_F_goals : MethodName := ⟨RX10, "goals", "(II)I"⟩
abbrev m_F_goals : Nat := 113
def y_F_say : MethodName := ⟨RX10, "say", "(I)I"⟩
abbrev m_F_say : Nat := 114
def y_F_wipe : MethodName := ⟨RX10, "wipe", "()I"⟩
abbrev m_F_wipe : Nat := 115
def y_F_fault : MethodName := ⟨RX10, "fault", "()I"⟩
abbrev m_F_fault : Nat := 116
def y_F_judge : MethodName := ⟨RX10, "judge", "(I)I"⟩
abbrev m_F_judge : Nat := 117
def y_F_done : MethodName := ⟨RX10, "done", "()I"⟩
abbrev m_F_done : Nat := 118
def y_F_behind : MethodName := ⟨RX10, "behind", "(II)I"⟩
abbrev m_F_behind : Nat := 119
def y_F_then : MethodName := ⟨RX10, "then", "(I)I"⟩
abbrev m_F_then : Nat := 120
def y_F_ends : MethodName := ⟨RX10, "ends", "(I)I"⟩
abbrev m_F_ends : Nat := 121
def y_F_goesIn : MethodName := ⟨RX10, "goesIn", "()I"⟩
abbrev m_F_goesIn : Nat := 122
def y_F_path : MethodName := ⟨RX10, "path", "(III)I"⟩
abbrev m_F_path : Nat := 123
def y_F_stand : MethodName := ⟨RX10, "stand", "(I)I"⟩
abbrev m_F_stand : Nat := 124
def y_F_mix : MethodName := ⟨RX10, "mix", "(IIIIII)J"⟩
abbrev m_F_mix : Nat := 125
def y_F_hands : MethodName := ⟨RX10, "hands", "(II)I"⟩
abbrev m_F_hands : Nat := 126
def y_F_truly : MethodName := ⟨RX10, "truly", "(IIIII)J"⟩
abbrev m_F_truly : Nat := 127
def y_F_race : MethodName := ⟨RX10, "race", "(IIII)J"⟩
abbrev m_F_race : Nat := 128
def y_F_seen : MethodName := ⟨RX10, "seen", "(IZ)I"⟩
abbrev m_F_seen : Nat := 129
def y_F_forget : MethodName := ⟨RX10, "forget", "()I"⟩
abbrev m_F_forget : Nat := 130
def y_F_fits : MethodName := ⟨RX10, "fits", "(I)I"⟩
abbrev m_F_fits : Nat := 131
def y_F_ask : MethodName := ⟨RX10, "ask", "(I)I"⟩
abbrev m_F_ask : Nat := 132
def y_F_year : MethodName := ⟨RX10, "year", "(III)I"⟩
abbrev m_F_year : Nat := 133
def y_F_image : MethodName := ⟨RX10, "image", "(I)I"⟩
abbrev m_F_image : Nat := 134
def y_F_restore : MethodName := ⟨RX10, "restore", "(I)I"⟩
abbrev m_F_restore : Nat := 135
def y_F_told : MethodName := ⟨RX10, "told", "(I)I"⟩
abbrev m_F_told : Nat := 136
def y_F_toldByNumber : MethodName := ⟨RX10, "toldByNumber", "(I)I"⟩
abbrev m_F_toldByNumber : Nat := 137
def y_F_playsThrough : MethodName := ⟨RX10, "playsThrough", "()Z"⟩
abbrev m_F_playsThrough : Nat := 138
def y_F_imageOf : MethodName := ⟨RX10, "imageOf", "(I)LFourRods$Image;"⟩
abbrev m_F_imageOf : Nat := 139
def y_F_isWithin : MethodName := ⟨RX10, "isWithin", "(III)Z"⟩
abbrev m_F_isWithin : Nat := 140
def y_F_isBit : MethodName := ⟨RX10, "isBit", "(I)Z"⟩
abbrev m_F_isBit : Nat := 141
def y_F_isTenths : MethodName := ⟨RX10, "isTenths", "(I)Z"⟩
abbrev m_F_isTenths : Nat := 142
def y_F_shotBit : MethodName := ⟨RX10, "shotBit", "(I)I"⟩
abbrev m_F_shotBit : Nat := 143
def y_F_copyRow : MethodName := ⟨RX10, "copyRow", "([I[I)V"⟩
abbrev m_F_copyRow : Nat := 144
def y_M_init : MethodName := ⟨RX11, "<init>", "()V"⟩
abbrev m_M_init : Nat := 145
def y_M_in : MethodName := ⟨RX11, "in", "(III)Z"⟩
abbrev m_M_in : Nat := 146
def y_M_bits : MethodName := ⟨RX11, "bits", "(I)I"⟩
abbrev m_M_bits : Nat := 147
def y_M_isRod : MethodName := ⟨RX11, "isRod", "(I)Z"⟩
abbrev m_M_isRod : Nat := 148
def y_M_sideOf : MethodName := ⟨RX11, "sideOf", "(I)I"⟩
abbrev m_M_sideOf : Nat := 149
def y_M_kindOf : MethodName := ⟨RX11, "kindOf", "(I)I"⟩
abbrev m_M_kindOf : Nat := 150
def y_M_menOf : MethodName := ⟨RX11, "menOf", "(I)I"⟩
abbrev m_M_menOf : Nat := 151
def y_M_apartOf : MethodName := ⟨RX11, "apartOf", "(I)I"⟩
abbrev m_M_apartOf : Nat := 152
def y_M_widest : MethodName := ⟨RX11, "widest", "(I)I"⟩
abbrev m_M_widest : Nat := 153
def y_M_isMan : MethodName := ⟨RX11, "isMan", "(II)Z"⟩
abbrev m_M_isMan : Nat := 154
def y_M_held : MethodName := ⟨RX11, "held", "(II)I"⟩
abbrev m_M_held : Nat := 155
def y_M_slide : MethodName := ⟨RX11, "slide", "(II)I"⟩
abbrev m_M_slide : Nat := 156
def y_M_hold : MethodName := ⟨RX11, "hold", "(IZ)I"⟩
abbrev m_M_hold : Nat := 157
def y_M_ball : MethodName := ⟨RX11, "ball", "(II)I"⟩
abbrev m_M_ball : Nat := 158
def y_M_goals : MethodName := ⟨RX11, "goals", "(II)I"⟩
abbrev m_M_goals : Nat := 159
def y_M_say : MethodName := ⟨RX11, "say", "(I)I"⟩
abbrev m_M_say : Nat := 160
def y_M_wipe : MethodName := ⟨RX11, "wipe", "()I"⟩
abbrev m_M_wipe : Nat := 161
def y_M_step : MethodName := ⟨RX11, "step", "(II)I"⟩
abbrev m_M_step : Nat := 162
def y_M_faultOf : MethodName := ⟨RX11, "faultOf", "()I"⟩
abbrev m_M_faultOf : Nat := 163
def y_M_fault : MethodName := ⟨RX11, "fault", "()I"⟩
abbrev m_M_fault : Nat := 164
def y_M_standsAt : MethodName := ⟨RX11, "standsAt", "(II)I"⟩
abbrev m_M_standsAt : Nat := 165
def y_M_covers : MethodName := ⟨RX11, "covers", "(II)I"⟩
abbrev m_M_covers : Nat := 166
def y_M_shotBy : MethodName := ⟨RX11, "shotBy", "(I)I"⟩
abbrev m_M_shotBy : Nat := 167
def y_M_overBy : MethodName := ⟨RX11, "overBy", "(III)I"⟩
abbrev m_M_overBy : Nat := 168
def y_M_asNow : MethodName := ⟨RX11, "asNow", "()V"⟩
abbrev m_M_asNow : Nat := 169
def y_M_isOver : MethodName := ⟨RX11, "isOver", "()Z"⟩
abbrev m_M_isOver : Nat := 170
def y_M_grasp : MethodName := ⟨RX11, "grasp", "(I)I"⟩
abbrev m_M_grasp : Nat := 171
def y_M_letGo : MethodName := ⟨RX11, "letGo", "(I)I"⟩
abbrev m_M_letGo : Nat := 172
def y_M_slideBy : MethodName := ⟨RX11, "slideBy", "(II)I"⟩
abbrev m_M_slideBy : Nat := 173
def y_M_whyNot : MethodName := ⟨RX11, "whyNot", "()I"⟩
abbrev m_M_whyNot : Nat := 174
def y_M_passTo : MethodName := ⟨RX11, "passTo", "(I)I"⟩
abbrev m_M_passTo : Nat := 175
def y_M_passOver : MethodName := ⟨RX11, "passOver", "(I)I"⟩
abbrev m_M_passOver : Nat := 176
def y_M_shoot : MethodName := ⟨RX11, "shoot", "(I)I"⟩
abbrev m_M_shoot : Nat := 177
def y_M_throwIn : MethodName := ⟨RX11, "throwIn", "(II)I"⟩
abbrev m_M_throwIn : Nat := 178
def y_M_endTenth : MethodName := ⟨RX11, "endTenth", "()I"⟩
abbrev m_M_endTenth : Nat := 179
def y_M_rodAct : MethodName := ⟨RX11, "rodAct", "(I)I"⟩
abbrev m_M_rodAct : Nat := 180
def y_M_nextAct : MethodName := ⟨RX11, "nextAct", "()I"⟩
abbrev m_M_nextAct : Nat := 181
def y_M_goEvenings : MethodName := ⟨RX11, "goEvenings", "()I"⟩
abbrev m_M_goEvenings : Nat := 182
def y_M_judge : MethodName := ⟨RX11, "judge", "(I)I"⟩
abbrev m_M_judge : Nat := 183
def y_M_barOfEvenings : MethodName := ⟨RX11, "barOfEvenings", "()I"⟩
abbrev m_M_barOfEvenings : Nat := 184
def y_M_done : MethodName := ⟨RX11, "done", "()I"⟩
abbrev m_M_done : Nat := 185
def y_M_behind : MethodName := ⟨RX11, "behind", "(II)I"⟩
abbrev m_M_behind : Nat := 186
def y_M_then : MethodName := ⟨RX11, "then", "(I)I"⟩
abbrev m_M_then : Nat := 187
def y_M_ends : MethodName := ⟨RX11, "ends", "(I)I"⟩
abbrev m_M_ends : Nat := 188
def y_M_allIn : MethodName := ⟨RX11, "allIn", "()I"⟩
abbrev m_M_allIn : Nat := 189
def y_M_goesIn : MethodName := ⟨RX11, "goesIn", "()I"⟩
abbrev m_M_goesIn : Nat := 190
def y_M_passes : MethodName := ⟨RX11, "passes", "(IIII)Z"⟩
abbrev m_M_passes : Nat := 191
def y_M_path : MethodName := ⟨RX11, "path", "(III)I"⟩
abbrev m_M_path : Nat := 192
def y_M_stand : MethodName := ⟨RX11, "stand", "(I)I"⟩
abbrev m_M_stand : Nat := 193
def y_M_lowest : MethodName := ⟨RX11, "lowest", "(JJI)J"⟩
abbrev m_M_lowest : Nat := 194
def y_M_mix : MethodName := ⟨RX11, "mix", "(IIIIII)J"⟩
abbrev m_M_mix : Nat := 195
def y_M_hands : MethodName := ⟨RX11, "hands", "(II)I"⟩
abbrev m_M_hands : Nat := 196
def y_M_power : MethodName := ⟨RX11, "power", "(JI)J"⟩
abbrev m_M_power : Nat := 197
def y_M_truly : MethodName := ⟨RX11, "truly", "(IIIII)J"⟩
abbrev m_M_truly : Nat := 198
def y_M_race : MethodName := ⟨RX11, "race", "(IIII)J"⟩
abbrev m_M_race : Nat := 199
def y_M_seen : MethodName := ⟨RX11, "seen", "(IZ)I"⟩
abbrev m_M_seen : Nat := 200
def y_M_forget : MethodName := ⟨RX11, "forget", "()I"⟩
abbrev m_M_forget : Nat := 201
def y_M_sideAt : MethodName := ⟨RX11, "sideAt", "(II)I"⟩
abbrev m_M_sideAt : Nat := 202
def y_M_isFit : MethodName := ⟨RX11, "isFit", "(I)Z"⟩
abbrev m_M_isFit : Nat := 203
def y_M_fits : MethodName := ⟨RX11, "fits", "(I)I"⟩
abbrev m_M_fits : Nat := 204
def y_M_ask : MethodName := ⟨RX11, "ask", "(I)I"⟩
abbrev m_M_ask : Nat := 205
def y_M_year : MethodName := ⟨RX11, "year", "(III)I"⟩
abbrev m_M_year : Nat := 206
def y_M_image : MethodName := ⟨RX11, "image", "(I)I"⟩
abbrev m_M_image : Nat := 207
def y_M_restore : MethodName := ⟨RX11, "restore", "(I)I"⟩
abbrev m_M_restore : Nat := 208
def y_M_told : MethodName := ⟨RX11, "told", "(I)I"⟩
abbrev m_M_told : Nat := 209
def y_Integer_bitCount : MethodName := ⟨RJ6, "bitCount", "(I)I"⟩
abbrev m_Integer_bitCount : Nat := 210
def y_Math_floorMod : MethodName := ⟨RJ9, "floorMod", "(II)I"⟩
abbrev m_Math_floorMod : Nat := 211
def y_Math_abs : MethodName := ⟨RJ9, "abs", "(I)I"⟩
abbrev m_Math_abs : Nat := 212
def y_Math_max : MethodName := ⟨RJ9, "max", "(II)I"⟩
abbrev m_Math_max : Nat := 213
def y_Math_min : MethodName := ⟨RJ9, "min", "(II)I"⟩
abbrev m_Math_min : Nat := 214
def y_Law_law : MethodName := ⟨RL, "law", "([I)Z"⟩
abbrev m_Law_law : Nat := 215
abbrev EN : Type := Instr × Nat × Nat × Nat × Int
abbrev MIt : Type := Nat × MethodName × ByteArray × Nat × Option FieldType × Nat
def mi_Chances_part : MIt := (9, y_Chances_part, prog_2_method_2_code, 7, (some .long), 3)
def mi_Chances_commonDivisor : MIt := (9, y_Chances_commonDivisor, prog_2_method_3_code, 11, (some .long), 2)
def mi_Chances_mixed : MIt := (9, y_Chances_mixed, prog_2_method_4_code, 7, (some .long), 6)
def mi_Chances_mixedInOrder : MIt := (9, y_Chances_mixedInOrder, prog_2_method_5_code, 13, (some .long), 6)
def mi_Chances_isTheFirst : MIt := (9, y_Chances_isTheFirst, prog_2_method_6_code, 9, (some .long), 5)
def mi_Chances_winsRace : MIt := (9, y_Chances_winsRace, prog_2_method_7_code, 9, (some .long), 4)
def mi_Chances_power : MIt := (9, y_Chances_power, prog_2_method_8_code, 5, (some .long), 2)
def mi_Defence_init : MIt := (0, y_Defence_init, prog_3_method_1_code, 1, none, 0)
def mi_Defence_letIn : MIt := (0, y_Defence_letIn, prog_3_method_2_code, 1, (some .int), 0)
def mi_Defence_slides : MIt := (0, y_Defence_slides, prog_3_method_3_code, 1, (some .int), 0)
def mi_Defence_place : MIt := (0, y_Defence_place, prog_3_method_4_code, 8, none, 1)
def mi_Defence_shotsPastOthers : MIt := (0, y_Defence_shotsPastOthers, prog_3_method_5_code, 7, (some .int), 1)
def mi_Defence_tryKeeper : MIt := (0, y_Defence_tryKeeper, prog_3_method_6_code, 6, none, 3)
def mi_Evening_init : MIt := (1, y_Evening_init, prog_4_method_1_code, 1, none, 0)
def mi_Evening_table : MIt := (1, y_Evening_table, prog_4_method_2_code, 1, (some (.object "FourRods$Table")), 0)
def mi_Evening_acts : MIt := (1, y_Evening_acts, prog_4_method_3_code, 1, (some .int), 0)
def mi_Evening_stoppedAt : MIt := (1, y_Evening_stoppedAt, prog_4_method_4_code, 1, (some .int), 0)
def mi_Evening_reason : MIt := (1, y_Evening_reason, prog_4_method_5_code, 1, (some .int), 0)
def mi_Evening_firstGoal : MIt := (1, y_Evening_firstGoal, prog_4_method_6_code, 1, (some .int), 0)
def mi_Evening_play : MIt := (1, y_Evening_play, prog_4_method_7_code, 6, none, 2)
def mi_Grasps_isRow : MIt := (10, y_Grasps_isRow, prog_5_method_2_code, 4, (some .boolean), 2)
def mi_Grasps_fewest : MIt := (10, y_Grasps_fewest, prog_5_method_3_code, 6, (some .int), 2)
def mi_Grasps_needed : MIt := (10, y_Grasps_needed, prog_5_method_4_code, 5, (some .int), 3)
def mi_Grasps_latest : MIt := (10, y_Grasps_latest, prog_5_method_5_code, 7, (some .int), 4)
def mi_Grasps_nextNeed : MIt := (10, y_Grasps_nextNeed, prog_5_method_6_code, 5, (some .int), 4)
def mi_Image_init : MIt := (2, y_Image_init, prog_6_method_1_code, 1, none, 0)
def mi_Image_keep : MIt := (2, y_Image_keep, prog_6_method_2_code, 3, none, 2)
def mi_Image_giveBack : MIt := (2, y_Image_giveBack, prog_6_method_3_code, 3, (some .boolean), 2)
def mi_Pad_init : MIt := (3, y_Pad_init, prog_7_method_1_code, 1, none, 0)
def mi_Pad_size : MIt := (3, y_Pad_size, prog_7_method_2_code, 1, (some .int), 0)
def mi_Pad_add : MIt := (3, y_Pad_add, prog_7_method_3_code, 2, (some .boolean), 1)
def mi_Pad_clear : MIt := (3, y_Pad_clear, prog_7_method_4_code, 1, none, 0)
def mi_Pad_rewind : MIt := (3, y_Pad_rewind, prog_7_method_5_code, 1, none, 0)
def mi_Pad_isReadOut : MIt := (3, y_Pad_isReadOut, prog_7_method_6_code, 1, (some .boolean), 0)
def mi_Pad_kind : MIt := (3, y_Pad_kind, prog_7_method_7_code, 1, (some .int), 0)
def mi_Pad_rod : MIt := (3, y_Pad_rod, prog_7_method_8_code, 1, (some .int), 0)
def mi_Pad_number : MIt := (3, y_Pad_number, prog_7_method_9_code, 1, (some .int), 0)
def mi_Pad_faultPlace : MIt := (3, y_Pad_faultPlace, prog_7_method_10_code, 2, (some .int), 0)
def mi_Pad_readAct : MIt := (3, y_Pad_readAct, prog_7_method_11_code, 1, (some .boolean), 0)
def mi_Pad_takesHandling : MIt := (3, y_Pad_takesHandling, prog_7_method_12_code, 1, (some .boolean), 0)
def mi_Pad_takesWay : MIt := (3, y_Pad_takesWay, prog_7_method_13_code, 1, (some .boolean), 0)
def mi_Pad_takes : MIt := (3, y_Pad_takes, prog_7_method_14_code, 3, (some .boolean), 2)
def mi_Pad_takesRod : MIt := (3, y_Pad_takesRod, prog_7_method_15_code, 2, (some .boolean), 0)
def mi_Pad_takesDigit : MIt := (3, y_Pad_takesDigit, prog_7_method_16_code, 4, (some .boolean), 2)
def mi_Pad_nextSign : MIt := (3, y_Pad_nextSign, prog_7_method_17_code, 1, (some .int), 0)
def mi_Passes_init : MIt := (4, y_Passes_init, prog_8_method_1_code, 1, none, 0)
def mi_Passes_from : MIt := (4, y_Passes_from, prog_8_method_2_code, 2, (some .int), 1)
def mi_Passes_countTo : MIt := (4, y_Passes_countTo, prog_8_method_3_code, 5, none, 2)
def mi_Passes_leads : MIt := (4, y_Passes_leads, prog_8_method_4_code, 5, (some .boolean), 3)
def mi_Passes_firstFrom : MIt := (4, y_Passes_firstFrom, prog_8_method_5_code, 7, (some .int), 2)
def mi_Passes_receiver : MIt := (4, y_Passes_receiver, prog_8_method_6_code, 6, (some .int), 3)
def mi_Passes_ownOnly : MIt := (4, y_Passes_ownOnly, prog_8_method_7_code, 2, (some .int), 2)
def mi_Rods_isRod : MIt := (11, y_Rods_isRod, prog_9_method_2_code, 1, (some .boolean), 1)
def mi_Rods_isMan : MIt := (11, y_Rods_isMan, prog_9_method_3_code, 2, (some .boolean), 2)
def mi_Rods_sideOf : MIt := (11, y_Rods_sideOf, prog_9_method_4_code, 1, (some .int), 1)
def mi_Rods_menOf : MIt := (11, y_Rods_menOf, prog_9_method_5_code, 1, (some .int), 1)
def mi_Rods_gapOf : MIt := (11, y_Rods_gapOf, prog_9_method_6_code, 1, (some .int), 1)
def mi_Rods_lastSlide : MIt := (11, y_Rods_lastSlide, prog_9_method_7_code, 1, (some .int), 1)
def mi_Rods_isOf : MIt := (11, y_Rods_isOf, prog_9_method_8_code, 2, (some .boolean), 2)
def mi_Rods_keeperOf : MIt := (11, y_Rods_keeperOf, prog_9_method_9_code, 1, (some .int), 1)
def mi_Rods_backsOf : MIt := (11, y_Rods_backsOf, prog_9_method_10_code, 1, (some .int), 1)
def mi_Rods_stepToGoalOf : MIt := (11, y_Rods_stepToGoalOf, prog_9_method_11_code, 1, (some .int), 1)
def mi_Sights_init : MIt := (5, y_Sights_init, prog_10_method_1_code, 1, none, 0)
def mi_Sights_size : MIt := (5, y_Sights_size, prog_10_method_2_code, 1, (some .int), 0)
def mi_Sights_add : MIt := (5, y_Sights_add, prog_10_method_3_code, 3, (some .boolean), 2)
def mi_Sights_clear : MIt := (5, y_Sights_clear, prog_10_method_4_code, 1, none, 0)
def mi_Sights_copyFrom : MIt := (5, y_Sights_copyFrom, prog_10_method_5_code, 2, none, 1)
def mi_Sights_findRows : MIt := (5, y_Sights_findRows, prog_10_method_6_code, 2, (some .int), 0)
def mi_Sights_rowFound : MIt := (5, y_Sights_rowFound, prog_10_method_7_code, 2, (some .int), 1)
def mi_Sights_bestShot : MIt := (5, y_Sights_bestShot, prog_10_method_8_code, 3, (some .int), 0)
def mi_Sights_mostLeft : MIt := (5, y_Sights_mostLeft, prog_10_method_9_code, 4, (some .int), 1)
def mi_Sights_isRow : MIt := (5, y_Sights_isRow, prog_10_method_10_code, 1, (some .boolean), 1)
def mi_Sights_fitsAll : MIt := (5, y_Sights_fitsAll, prog_10_method_11_code, 3, (some .boolean), 1)
def mi_Sights_sideBy : MIt := (5, y_Sights_sideBy, prog_10_method_12_code, 3, (some .int), 2)
def mi_Table_init : MIt := (6, y_Table_init, prog_11_method_1_code, 2, none, 0)
def mi_Table_copyFrom : MIt := (6, y_Table_copyFrom, prog_11_method_2_code, 2, none, 1)
def mi_Table_slideOf : MIt := (6, y_Table_slideOf, prog_11_method_3_code, 2, (some .int), 1)
def mi_Table_slideTo : MIt := (6, y_Table_slideTo, prog_11_method_4_code, 3, none, 2)
def mi_Table_scoredBy : MIt := (6, y_Table_scoredBy, prog_11_method_5_code, 2, (some .int), 1)
def mi_Table_setScored : MIt := (6, y_Table_setScored, prog_11_method_6_code, 3, none, 2)
def mi_Table_scoredInAll : MIt := (6, y_Table_scoredInAll, prog_11_method_7_code, 1, (some .int), 0)
def mi_Table_heldRods : MIt := (6, y_Table_heldRods, prog_11_method_8_code, 1, (some .int), 0)
def mi_Table_isHeld : MIt := (6, y_Table_isHeld, prog_11_method_9_code, 2, (some .boolean), 1)
def mi_Table_heldBy : MIt := (6, y_Table_heldBy, prog_11_method_10_code, 4, (some .int), 1)
def mi_Table_setHeld : MIt := (6, y_Table_setHeld, prog_11_method_11_code, 3, none, 2)
def mi_Table_tenth : MIt := (6, y_Table_tenth, prog_11_method_12_code, 1, (some .int), 0)
def mi_Table_isDead : MIt := (6, y_Table_isDead, prog_11_method_13_code, 1, (some .boolean), 0)
def mi_Table_ballRod : MIt := (6, y_Table_ballRod, prog_11_method_14_code, 1, (some .int), 0)
def mi_Table_ballMan : MIt := (6, y_Table_ballMan, prog_11_method_15_code, 1, (some .int), 0)
def mi_Table_ballPlace : MIt := (6, y_Table_ballPlace, prog_11_method_16_code, 1, (some .int), 0)
def mi_Table_loseBall : MIt := (6, y_Table_loseBall, prog_11_method_17_code, 1, none, 0)
def mi_Table_giveBall : MIt := (6, y_Table_giveBall, prog_11_method_18_code, 2, none, 1)
def mi_Table_placeOf : MIt := (6, y_Table_placeOf, prog_11_method_19_code, 3, (some .int), 2)
def mi_Table_covererOf : MIt := (6, y_Table_covererOf, prog_11_method_20_code, 6, (some .int), 2)
def mi_Table_nearestOf : MIt := (6, y_Table_nearestOf, prog_11_method_21_code, 7, (some .int), 2)
def mi_Table_overFrom : MIt := (6, y_Table_overFrom, prog_11_method_22_code, 11, (some .int), 3)
def mi_Table_shotEnd : MIt := (6, y_Table_shotEnd, prog_11_method_23_code, 7, (some .int), 1)
def mi_Table_reachesGoal : MIt := (6, y_Table_reachesGoal, prog_11_method_24_code, 5, (some .boolean), 2)
def mi_Table_shotsToGoal : MIt := (6, y_Table_shotsToGoal, prog_11_method_25_code, 4, (some .int), 0)
def mi_Table_shotsPast : MIt := (6, y_Table_shotsPast, prog_11_method_26_code, 6, (some .int), 1)
def mi_Table_bounced : MIt := (6, y_Table_bounced, prog_11_method_27_code, 2, (some .int), 1)
def mi_Table_whyNot : MIt := (6, y_Table_whyNot, prog_11_method_28_code, 4, (some .int), 3)
def mi_Table_isPlayed : MIt := (6, y_Table_isPlayed, prog_11_method_29_code, 1, (some .boolean), 1)
def mi_Table_isHeldWrongly : MIt := (6, y_Table_isHeldWrongly, prog_11_method_30_code, 3, (some .boolean), 2)
def mi_Table_isNextMan : MIt := (6, y_Table_isNextMan, prog_11_method_31_code, 2, (some .boolean), 1)
def mi_Table_perform : MIt := (6, y_Table_perform, prog_11_method_32_code, 4, none, 3)
def mi_Table_endShot : MIt := (6, y_Table_endShot, prog_11_method_33_code, 3, none, 1)
def mi_Table_tryDrawn : MIt := (6, y_Table_tryDrawn, prog_11_method_34_code, 5, none, 1)
def mi_Table_drawnNumber : MIt := (6, y_Table_drawnNumber, prog_11_method_35_code, 2, (some .int), 2)
def mi_F_init : MIt := (7, y_F_init, prog_1_method_1_code, 1, none, 0)
def mi_F_slide : MIt := (7, y_F_slide, prog_1_method_2_code, 4, (some .int), 2)
def mi_F_hold : MIt := (7, y_F_hold, prog_1_method_3_code, 4, (some .int), 2)
def mi_F_ball : MIt := (7, y_F_ball, prog_1_method_4_code, 3, (some .int), 2)
def mi_F_goals : MIt := (7, y_F_goals, prog_1_method_5_code, 4, (some .int), 2)
def mi_F_say : MIt := (7, y_F_say, prog_1_method_6_code, 2, (some .int), 1)
def mi_F_wipe : MIt := (7, y_F_wipe, prog_1_method_7_code, 2, (some .int), 0)
def mi_F_fault : MIt := (7, y_F_fault, prog_1_method_8_code, 1, (some .int), 0)
def mi_F_judge : MIt := (7, y_F_judge, prog_1_method_9_code, 2, (some .int), 1)
def mi_F_done : MIt := (7, y_F_done, prog_1_method_10_code, 1, (some .int), 0)
def mi_F_behind : MIt := (7, y_F_behind, prog_1_method_11_code, 3, (some .int), 2)
def mi_F_then : MIt := (7, y_F_then, prog_1_method_12_code, 3, (some .int), 1)
def mi_F_ends : MIt := (7, y_F_ends, prog_1_method_13_code, 2, (some .int), 1)
def mi_F_goesIn : MIt := (7, y_F_goesIn, prog_1_method_14_code, 3, (some .int), 0)
def mi_F_path : MIt := (7, y_F_path, prog_1_method_15_code, 5, (some .int), 3)
def mi_F_stand : MIt := (7, y_F_stand, prog_1_method_16_code, 2, (some .int), 1)
def mi_F_mix : MIt := (7, y_F_mix, prog_1_method_17_code, 7, (some .long), 6)
def mi_F_hands : MIt := (7, y_F_hands, prog_1_method_18_code, 3, (some .int), 2)
def mi_F_truly : MIt := (7, y_F_truly, prog_1_method_19_code, 6, (some .long), 5)
def mi_F_race : MIt := (7, y_F_race, prog_1_method_20_code, 5, (some .long), 4)
def mi_F_seen : MIt := (7, y_F_seen, prog_1_method_21_code, 3, (some .int), 2)
def mi_F_forget : MIt := (7, y_F_forget, prog_1_method_22_code, 2, (some .int), 0)
def mi_F_fits : MIt := (7, y_F_fits, prog_1_method_23_code, 3, (some .int), 1)
def mi_F_ask : MIt := (7, y_F_ask, prog_1_method_24_code, 3, (some .int), 1)
def mi_F_year : MIt := (7, y_F_year, prog_1_method_25_code, 6, (some .int), 3)
def mi_F_image : MIt := (7, y_F_image, prog_1_method_26_code, 2, (some .int), 1)
def mi_F_restore : MIt := (7, y_F_restore, prog_1_method_27_code, 2, (some .int), 1)
def mi_F_told : MIt := (7, y_F_told, prog_1_method_28_code, 2, (some .int), 1)
def mi_F_toldByNumber : MIt := (7, y_F_toldByNumber, prog_1_method_29_code, 4, (some .int), 1)
def mi_F_playsThrough : MIt := (7, y_F_playsThrough, prog_1_method_30_code, 1, (some .boolean), 0)
def mi_F_imageOf : MIt := (7, y_F_imageOf, prog_1_method_31_code, 2, (some (.object "FourRods$Image")), 1)
def mi_F_isWithin : MIt := (7, y_F_isWithin, prog_1_method_32_code, 3, (some .boolean), 3)
def mi_F_isBit : MIt := (7, y_F_isBit, prog_1_method_33_code, 1, (some .boolean), 1)
def mi_F_isTenths : MIt := (7, y_F_isTenths, prog_1_method_34_code, 1, (some .boolean), 1)
def mi_F_shotBit : MIt := (7, y_F_shotBit, prog_1_method_35_code, 1, (some .int), 1)
def mi_F_copyRow : MIt := (7, y_F_copyRow, prog_1_method_36_code, 3, none, 2)
def mi_M_init : MIt := (8, y_M_init, prog_13_method_1_code, 2, none, 0)
def mi_M_in : MIt := (8, y_M_in, prog_13_method_2_code, 3, (some .boolean), 3)
def mi_M_bits : MIt := (8, y_M_bits, prog_13_method_3_code, 3, (some .int), 1)
def mi_M_isRod : MIt := (8, y_M_isRod, prog_13_method_4_code, 1, (some .boolean), 1)
def mi_M_sideOf : MIt := (8, y_M_sideOf, prog_13_method_5_code, 1, (some .int), 1)
def mi_M_kindOf : MIt := (8, y_M_kindOf, prog_13_method_6_code, 2, (some .int), 1)
def mi_M_menOf : MIt := (8, y_M_menOf, prog_13_method_7_code, 2, (some .int), 1)
def mi_M_apartOf : MIt := (8, y_M_apartOf, prog_13_method_8_code, 2, (some .int), 1)
def mi_M_widest : MIt := (8, y_M_widest, prog_13_method_9_code, 1, (some .int), 1)
def mi_M_isMan : MIt := (8, y_M_isMan, prog_13_method_10_code, 2, (some .boolean), 2)
def mi_M_held : MIt := (8, y_M_held, prog_13_method_11_code, 5, (some .int), 2)
def mi_M_slide : MIt := (8, y_M_slide, prog_13_method_12_code, 4, (some .int), 2)
def mi_M_hold : MIt := (8, y_M_hold, prog_13_method_13_code, 3, (some .int), 2)
def mi_M_ball : MIt := (8, y_M_ball, prog_13_method_14_code, 3, (some .int), 2)
def mi_M_goals : MIt := (8, y_M_goals, prog_13_method_15_code, 4, (some .int), 2)
def mi_M_say : MIt := (8, y_M_say, prog_13_method_16_code, 2, (some .int), 1)
def mi_M_wipe : MIt := (8, y_M_wipe, prog_13_method_17_code, 2, (some .int), 0)
def mi_M_step : MIt := (8, y_M_step, prog_13_method_18_code, 4, (some .int), 2)
def mi_M_faultOf : MIt := (8, y_M_faultOf, prog_13_method_19_code, 3, (some .int), 0)
def mi_M_fault : MIt := (8, y_M_fault, prog_13_method_20_code, 1, (some .int), 0)
def mi_M_standsAt : MIt := (8, y_M_standsAt, prog_13_method_21_code, 3, (some .int), 2)
def mi_M_covers : MIt := (8, y_M_covers, prog_13_method_22_code, 4, (some .int), 2)
def mi_M_shotBy : MIt := (8, y_M_shotBy, prog_13_method_23_code, 8, (some .int), 1)
def mi_M_overBy : MIt := (8, y_M_overBy, prog_13_method_24_code, 8, (some .int), 3)
def mi_M_asNow : MIt := (8, y_M_asNow, prog_13_method_25_code, 2, none, 0)
def mi_M_isOver : MIt := (8, y_M_isOver, prog_13_method_26_code, 1, (some .boolean), 0)
def mi_M_grasp : MIt := (8, y_M_grasp, prog_13_method_27_code, 2, (some .int), 1)
def mi_M_letGo : MIt := (8, y_M_letGo, prog_13_method_28_code, 2, (some .int), 1)
def mi_M_slideBy : MIt := (8, y_M_slideBy, prog_13_method_29_code, 3, (some .int), 2)
def mi_M_whyNot : MIt := (8, y_M_whyNot, prog_13_method_30_code, 1, (some .int), 0)
def mi_M_passTo : MIt := (8, y_M_passTo, prog_13_method_31_code, 3, (some .int), 1)
def mi_M_passOver : MIt := (8, y_M_passOver, prog_13_method_32_code, 4, (some .int), 1)
def mi_M_shoot : MIt := (8, y_M_shoot, prog_13_method_33_code, 5, (some .int), 1)
def mi_M_throwIn : MIt := (8, y_M_throwIn, prog_13_method_34_code, 3, (some .int), 2)
def mi_M_endTenth : MIt := (8, y_M_endTenth, prog_13_method_35_code, 1, (some .int), 0)
def mi_M_rodAct : MIt := (8, y_M_rodAct, prog_13_method_36_code, 4, (some .int), 1)
def mi_M_nextAct : MIt := (8, y_M_nextAct, prog_13_method_37_code, 2, (some .int), 0)
def mi_M_goEvenings : MIt := (8, y_M_goEvenings, prog_13_method_38_code, 2, (some .int), 0)
def mi_M_judge : MIt := (8, y_M_judge, prog_13_method_39_code, 3, (some .int), 1)
def mi_M_barOfEvenings : MIt := (8, y_M_barOfEvenings, prog_13_method_40_code, 1, (some .int), 0)
def mi_M_done : MIt := (8, y_M_done, prog_13_method_41_code, 2, (some .int), 0)
def mi_M_behind : MIt := (8, y_M_behind, prog_13_method_42_code, 3, (some .int), 2)
def mi_M_then : MIt := (8, y_M_then, prog_13_method_43_code, 2, (some .int), 1)
def mi_M_ends : MIt := (8, y_M_ends, prog_13_method_44_code, 2, (some .int), 1)
def mi_M_allIn : MIt := (8, y_M_allIn, prog_13_method_45_code, 3, (some .int), 0)
def mi_M_goesIn : MIt := (8, y_M_goesIn, prog_13_method_46_code, 1, (some .int), 0)
def mi_M_passes : MIt := (8, y_M_passes, prog_13_method_47_code, 5, (some .boolean), 4)
def mi_M_path : MIt := (8, y_M_path, prog_13_method_48_code, 7, (some .int), 3)
def mi_M_stand : MIt := (8, y_M_stand, prog_13_method_49_code, 9, (some .int), 1)
def mi_M_lowest : MIt := (8, y_M_lowest, prog_13_method_50_code, 15, (some .long), 3)
def mi_M_mix : MIt := (8, y_M_mix, prog_13_method_51_code, 14, (some .long), 6)
def mi_M_hands : MIt := (8, y_M_hands, prog_13_method_52_code, 13, (some .int), 2)
def mi_M_power : MIt := (8, y_M_power, prog_13_method_53_code, 6, (some .long), 2)
def mi_M_truly : MIt := (8, y_M_truly, prog_13_method_54_code, 10, (some .long), 5)
def mi_M_race : MIt := (8, y_M_race, prog_13_method_55_code, 7, (some .long), 4)
def mi_M_seen : MIt := (8, y_M_seen, prog_13_method_56_code, 3, (some .int), 2)
def mi_M_forget : MIt := (8, y_M_forget, prog_13_method_57_code, 2, (some .int), 0)
def mi_M_sideAt : MIt := (8, y_M_sideAt, prog_13_method_58_code, 2, (some .int), 2)
def mi_M_isFit : MIt := (8, y_M_isFit, prog_13_method_59_code, 4, (some .boolean), 1)
def mi_M_fits : MIt := (8, y_M_fits, prog_13_method_60_code, 4, (some .int), 1)
def mi_M_ask : MIt := (8, y_M_ask, prog_13_method_61_code, 9, (some .int), 1)
def mi_M_year : MIt := (8, y_M_year, prog_13_method_62_code, 8, (some .int), 3)
def mi_M_image : MIt := (8, y_M_image, prog_13_method_63_code, 4, (some .int), 1)
def mi_M_restore : MIt := (8, y_M_restore, prog_13_method_64_code, 4, (some .int), 1)
def mi_M_told : MIt := (8, y_M_told, prog_13_method_65_code, 4, (some .int), 1)
def mi_Integer_bitCount : MIt := (13, y_Integer_bitCount, prog_14_method_49_code, 1, (some .int), 1)
def mi_Math_floorMod : MIt := (14, y_Math_floorMod, prog_15_method_50_code, 3, (some .int), 2)
def mi_Math_abs : MIt := (14, y_Math_abs, prog_15_method_59_code, 1, (some .int), 1)
def mi_Math_max : MIt := (14, y_Math_max, prog_15_method_65_code, 2, (some .int), 2)
def mi_Math_min : MIt := (14, y_Math_min, prog_15_method_69_code, 2, (some .int), 2)
def mi_Law_law : MIt := (12, y_Law_law, code, 4, (some .boolean), 1)
def MIc : List MIt := [mi_Chances_part, mi_Chances_commonDivisor, mi_Chances_mixed, mi_Chances_mixedInOrder, mi_Chances_isTheFirst, mi_Chances_winsRace, mi_Chances_power, mi_Defence_init, mi_Defence_letIn, mi_Defence_slides, mi_Defence_place, mi_Defence_shotsPastOthers, mi_Defence_tryKeeper, mi_Evening_init, mi_Evening_table, mi_Evening_acts, mi_Evening_stoppedAt, mi_Evening_reason, mi_Evening_firstGoal, mi_Evening_play, mi_Grasps_isRow, mi_Grasps_fewest, mi_Grasps_needed, mi_Grasps_latest, mi_Grasps_nextNeed, mi_Image_init, mi_Image_keep, mi_Image_giveBack, mi_Pad_init, mi_Pad_size, mi_Pad_add, mi_Pad_clear, mi_Pad_rewind, mi_Pad_isReadOut, mi_Pad_kind, mi_Pad_rod, mi_Pad_number, mi_Pad_faultPlace, mi_Pad_readAct, mi_Pad_takesHandling, mi_Pad_takesWay, mi_Pad_takes, mi_Pad_takesRod, mi_Pad_takesDigit, mi_Pad_nextSign, mi_Passes_init, mi_Passes_from, mi_Passes_countTo, mi_Passes_leads, mi_Passes_firstFrom, mi_Passes_receiver, mi_Passes_ownOnly, mi_Rods_isRod, mi_Rods_isMan, mi_Rods_sideOf, mi_Rods_menOf, mi_Rods_gapOf, mi_Rods_lastSlide, mi_Rods_isOf, mi_Rods_keeperOf, mi_Rods_backsOf, mi_Rods_stepToGoalOf, mi_Sights_init, mi_Sights_size, mi_Sights_add, mi_Sights_clear, mi_Sights_copyFrom, mi_Sights_findRows, mi_Sights_rowFound, mi_Sights_bestShot, mi_Sights_mostLeft, mi_Sights_isRow, mi_Sights_fitsAll, mi_Sights_sideBy, mi_Table_init, mi_Table_copyFrom, mi_Table_slideOf, mi_Table_slideTo, mi_Table_scoredBy, mi_Table_setScored, mi_Table_scoredInAll, mi_Table_heldRods, mi_Table_isHeld, mi_Table_heldBy, mi_Table_setHeld, mi_Table_tenth, mi_Table_isDead, mi_Table_ballRod, mi_Table_ballMan, mi_Table_ballPlace, mi_Table_loseBall, mi_Table_giveBall, mi_Table_placeOf, mi_Table_covererOf, mi_Table_nearestOf, mi_Table_overFrom, mi_Table_shotEnd, mi_Table_reachesGoal, mi_Table_shotsToGoal, mi_Table_shotsPast, mi_Table_bounced, mi_Table_whyNot, mi_Table_isPlayed, mi_Table_isHeldWrongly, mi_Table_isNextMan, mi_Table_perform, mi_Table_endShot, mi_Table_tryDrawn, mi_Table_drawnNumber, mi_F_init, mi_F_slide, mi_F_hold, mi_F_ball, mi_F_goals, mi_F_say, mi_F_wipe, mi_F_fault, mi_F_judge, mi_F_done, mi_F_behind, mi_F_then, mi_F_ends, mi_F_goesIn, mi_F_path, mi_F_stand, mi_F_mix, mi_F_hands, mi_F_truly, mi_F_race, mi_F_seen, mi_F_forget, mi_F_fits, mi_F_ask, mi_F_year, mi_F_image, mi_F_restore, mi_F_told, mi_F_toldByNumber, mi_F_playsThrough, mi_F_imageOf, mi_F_isWithin, mi_F_isBit, mi_F_isTenths, mi_F_shotBit, mi_F_copyRow, mi_M_init, mi_M_in, mi_M_bits, mi_M_isRod, mi_M_sideOf, mi_M_kindOf, mi_M_menOf, mi_M_apartOf, mi_M_widest, mi_M_isMan, mi_M_held, mi_M_slide, mi_M_hold, mi_M_ball, mi_M_goals, mi_M_say, mi_M_wipe, mi_M_step, mi_M_faultOf, mi_M_fault, mi_M_standsAt, mi_M_covers, mi_M_shotBy, mi_M_overBy, mi_M_asNow, mi_M_isOver, mi_M_grasp, mi_M_letGo, mi_M_slideBy, mi_M_whyNot, mi_M_passTo, mi_M_passOver, mi_M_shoot, mi_M_throwIn, mi_M_endTenth, mi_M_rodAct, mi_M_nextAct, mi_M_goEvenings, mi_M_judge, mi_M_barOfEvenings, mi_M_done, mi_M_behind, mi_M_then, mi_M_ends, mi_M_allIn, mi_M_goesIn, mi_M_passes, mi_M_path, mi_M_stand, mi_M_lowest, mi_M_mix, mi_M_hands, mi_M_power, mi_M_truly, mi_M_race, mi_M_seen, mi_M_forget, mi_M_sideAt, mi_M_isFit, mi_M_fits, mi_M_ask, mi_M_year, mi_M_image, mi_M_restore, mi_M_told, mi_Integer_bitCount, mi_Math_floorMod, mi_Math_abs, mi_Math_max, mi_Math_min]
def MI : List MIt := MIc ++ [mi_Law_law]
def FDl : List Nat := [1, 0, 3, 2, 2, 2, 0, 3, 0, 0, 5, 4, 1, 3, 0, 0, 0, 0, 0, 5, 0, 3, 0, 2, 1, 3, 2, 2, 1, 0, 0, 0, 0, 0, 0, 0, 0, 4, 3, 2, 2, 1, 1, 1, 0, 1, 0, 5, 4, 4, 3, 1, 0, 1, 0, 0, 0, 1, 1, 0, 0, 0, 1, 0, 0, 0, 1, 2, 0, 2, 1, 0, 1, 0, 2, 1, 0, 0, 0, 0, 1, 0, 1, 2, 1, 0, 0, 0, 0, 2, 0, 0, 1, 1, 1, 2, 3, 2, 3, 3, 1, 3, 0, 2, 2, 4, 1, 5, 0, 4, 2, 3, 2, 1, 1, 1, 5, 6, 7, 7, 7, 4, 4, 6, 6, 4, 4, 3, 3, 1, 1, 3, 3, 6, 3, 3, 3, 2, 6, 0, 0, 0, 1, 0, 0, 4, 0, 0, 1, 0, 1, 2, 2, 3, 3, 1, 4, 2, 4, 1, 1, 0, 1, 2, 3, 3, 4, 5, 5, 0, 0, 2, 1, 4, 1, 4, 6, 6, 4, 1, 5, 7, 8, 9, 9, 10, 10, 10, 6, 6, 7, 6, 7, 7, 0, 1, 1, 0, 1, 1, 1, 0, 0, 1, 2, 2, 7, 1, 1, 4, 0, 0, 0, 0, 0, 11]
def LDl : List Nat := [30, 0, 88, 56, 56, 56, 0, 61, 0, 0, 116, 90, 20, 61, 0, 0, 0, 0, 0, 116, 0, 74, 0, 48, 24, 61, 43, 43, 20, 0, 0, 0, 0, 0, 0, 0, 0, 85, 65, 45, 45, 20, 20, 22, 0, 20, 0, 126, 102, 102, 77, 20, 0, 20, 0, 0, 0, 20, 20, 0, 0, 0, 20, 0, 0, 0, 22, 44, 0, 45, 22, 0, 22, 0, 40, 22, 0, 0, 0, 0, 21, 0, 20, 41, 20, 0, 0, 0, 0, 43, 0, 0, 21, 21, 21, 47, 67, 43, 67, 63, 22, 77, 0, 41, 41, 93, 22, 116, 0, 81, 40, 64, 41, 22, 22, 20, 106, 141, 161, 161, 161, 93, 93, 150, 143, 114, 99, 84, 84, 22, 20, 65, 67, 140, 65, 65, 66, 43, 141, 0, 0, 0, 22, 0, 0, 82, 0, 0, 22, 0, 20, 41, 41, 62, 62, 20, 82, 44, 83, 22, 22, 0, 22, 45, 67, 62, 84, 107, 107, 0, 0, 44, 20, 82, 20, 83, 134, 134, 83, 20, 104, 158, 179, 200, 200, 220, 220, 220, 134, 134, 156, 134, 158, 156, 0, 34, 22, 0, 34, 34, 22, 0, 0, 21, 44, 44, 158, 22, 22, 84, 0, 0, 0, 0, 0, 242]
def FT : List (Nat × Nat × Nat × Nat) := [(0, 12, 0, 0), (0, 18, 0, 1), (0, 22, 0, 2), (0, 26, 0, 3), (1, 12, 1, 0), (1, 18, 1, 1), (1, 22, 1, 2), (1, 25, 1, 3), (1, 28, 1, 4), (2, 10, 2, 0), (2, 19, 2, 1), (2, 30, 2, 2), (3, 9, 3, 0), (3, 15, 3, 1), (3, 19, 3, 2), (3, 22, 3, 3), (3, 25, 3, 4), (3, 28, 3, 5), (4, 9, 4, 0), (5, 9, 5, 0), (5, 15, 5, 1), (5, 18, 5, 2), (5, 21, 5, 3), (5, 29, 5, 4), (6, 9, 6, 0), (6, 15, 6, 1), (6, 24, 6, 3), (6, 28, 6, 4), (6, 35, 6, 2), (6, 38, 6, 5), (7, 10, 7, 0), (7, 19, 7, 1), (7, 26, 7, 2), (7, 33, 7, 3), (7, 40, 7, 4), (7, 47, 7, 5), (7, 54, 7, 6), (7, 58, 7, 7), (7, 61, 7, 8), (8, 7, 8, 0), (8, 13, 8, 1), (8, 16, 8, 3), (8, 19, 8, 5), (8, 22, 8, 12), (8, 25, 8, 13), (8, 28, 8, 14), (8, 31, 8, 15), (8, 35, 8, 16), (8, 38, 8, 17), (8, 77, 8, 4), (8, 94, 8, 6), (8, 97, 8, 7), (8, 100, 8, 8), (8, 117, 8, 11), (8, 147, 8, 10), (8, 153, 8, 9), (8, 187, 8, 2)]
def KT : List (Nat × Nat × Nat × Nat) := [(9, 9, 0, 1), (9, 15, 0, 3), (9, 19, 0, 214), (9, 25, 0, 213), (9, 28, 0, 0), (9, 34, 0, 6), (0, 11, 2, 74), (0, 29, 1, 75), (0, 33, 1, 87), (0, 37, 0, 54), (0, 43, 0, 59), (0, 46, 0, 60), (0, 49, 1, 11), (0, 52, 0, 57), (0, 55, 1, 77), (0, 59, 1, 99), (0, 62, 1, 12), (0, 66, 1, 98), (0, 69, 0, 61), (0, 72, 0, 58), (0, 76, 0, 210), (1, 11, 2, 74), (1, 31, 1, 75), (1, 35, 1, 32), (1, 40, 1, 33), (1, 44, 1, 38), (1, 47, 1, 34), (1, 51, 1, 35), (1, 54, 1, 36), (1, 57, 1, 101), (1, 61, 1, 80), (1, 64, 1, 105), (10, 11, 0, 22), (10, 15, 0, 210), (10, 21, 0, 23), (10, 25, 0, 24), (2, 9, 2, 74), (2, 18, 4, 62), (2, 23, 1, 75), (2, 27, 1, 66), (3, 31, 1, 32), (3, 34, 1, 33), (3, 38, 1, 38), (3, 41, 1, 41), (3, 45, 1, 43), (3, 48, 1, 42), (3, 51, 1, 40), (3, 54, 1, 39), (3, 57, 1, 44), (3, 61, 0, 52), (3, 67, 3, 140), (4, 15, 1, 48), (4, 19, 0, 50), (4, 23, 1, 46), (4, 27, 0, 53), (4, 33, 1, 95), (4, 39, 0, 51), (4, 43, 0, 54), (11, 9, 0, 55), (11, 25, 0, 56), (11, 28, 0, 52), (11, 32, 0, 54), (5, 25, 3, 144), (5, 32, 0, 71), (5, 36, 1, 72), (5, 39, 1, 70), (5, 43, 0, 73), (5, 47, 0, 213), (6, 18, 0, 57), (6, 31, 3, 144), (6, 41, 1, 78), (6, 44, 0, 52), (6, 48, 0, 54), (6, 51, 1, 82), (6, 54, 1, 86), (6, 58, 1, 92), (6, 62, 1, 76), (6, 65, 0, 56), (6, 68, 0, 55), (6, 71, 0, 212), (6, 76, 0, 58), (6, 80, 1, 94), (6, 83, 1, 93), (6, 86, 0, 61), (6, 89, 0, 100), (6, 92, 1, 97), (6, 95, 0, 59), (6, 98, 1, 89), (6, 102, 3, 143), (6, 105, 0, 211), (6, 108, 0, 102), (6, 111, 1, 103), (6, 114, 1, 83), (6, 117, 0, 53), (6, 120, 1, 104), (6, 123, 1, 95), (6, 127, 1, 84), (6, 131, 1, 77), (6, 135, 1, 91), (6, 139, 1, 96), (6, 142, 1, 106), (6, 145, 1, 79), (6, 148, 1, 90), (6, 151, 0, 108), (6, 154, 1, 101), (6, 157, 1, 105), (7, 9, 2, 74), (7, 18, 4, 28), (7, 25, 4, 13), (7, 32, 4, 45), (7, 39, 4, 7), (7, 46, 4, 62), (7, 53, 4, 25), (7, 64, 0, 52), (7, 70, 0, 57), (7, 74, 0, 140), (7, 78, 1, 76), (7, 81, 1, 77), (7, 85, 0, 54), (7, 88, 1, 82), (7, 91, 1, 83), (7, 94, 1, 84), (7, 98, 1, 90), (7, 101, 0, 53), (7, 105, 1, 91), (7, 109, 0, 141), (7, 112, 1, 78), (7, 115, 1, 79), (7, 118, 1, 30), (7, 121, 1, 29), (7, 125, 1, 31), (7, 128, 1, 37), (7, 131, 1, 19), (7, 135, 1, 16), (7, 138, 1, 17), (7, 141, 1, 138), (7, 145, 1, 14), (7, 149, 1, 75), (7, 153, 1, 15), (7, 156, 1, 87), (7, 159, 1, 88), (7, 162, 1, 89), (7, 165, 1, 85), (7, 168, 1, 18), (7, 171, 1, 86), (7, 174, 1, 96), (7, 177, 0, 143), (7, 180, 1, 47), (7, 184, 1, 46), (7, 187, 1, 49), (7, 191, 1, 10), (7, 194, 1, 8), (7, 197, 1, 9), (7, 200, 0, 142), (7, 205, 0, 2), (7, 211, 0, 20), (7, 216, 0, 21), (7, 220, 0, 4), (7, 226, 0, 5), (7, 230, 1, 64), (7, 233, 1, 63), (7, 234, 1, 65), (7, 235, 1, 67), (7, 238, 1, 68), (7, 241, 1, 69), (7, 244, 1, 70), (7, 248, 1, 107), (7, 251, 1, 80), (7, 254, 1, 139), (7, 258, 1, 26), (7, 262, 1, 27), (7, 266, 1, 81), (7, 269, 1, 137), (7, 272, 1, 92), (8, 42, 0, 153), (8, 46, 0, 146), (8, 50, 0, 149), (8, 53, 0, 150), (8, 56, 0, 151), (8, 59, 0, 152), (8, 62, 0, 148), (8, 66, 1, 169), (8, 69, 1, 155), (8, 73, 0, 154), (8, 81, 0, 162), (8, 84, 1, 163), (8, 88, 1, 165), (8, 91, 1, 166), (8, 103, 1, 170), (8, 107, 1, 174), (8, 110, 1, 168), (8, 114, 1, 167), (8, 120, 1, 171), (8, 123, 1, 172), (8, 126, 1, 173), (8, 129, 1, 179), (8, 132, 1, 175), (8, 135, 1, 176), (8, 138, 1, 177), (8, 141, 1, 178), (8, 144, 1, 180), (8, 150, 1, 181), (8, 156, 1, 182), (8, 159, 1, 184), (8, 162, 1, 189), (8, 166, 1, 191), (8, 170, 0, 147), (8, 177, 0, 194), (8, 181, 0, 197), (8, 190, 0, 202), (8, 193, 1, 203), (12, 9, 2, 109), (12, 12, 2, 145), (12, 13, 1, 110), (12, 17, 1, 156), (12, 18, 1, 111), (12, 22, 1, 157), (12, 23, 1, 112), (12, 26, 1, 158), (12, 27, 1, 113), (12, 30, 1, 159), (12, 31, 1, 114), (12, 35, 1, 160), (12, 36, 1, 115), (12, 40, 1, 161), (12, 41, 1, 116), (12, 44, 1, 164), (12, 45, 1, 117), (12, 48, 1, 183), (12, 49, 1, 118), (12, 52, 1, 185), (12, 53, 1, 119), (12, 56, 1, 186), (12, 57, 1, 120), (12, 60, 1, 187), (12, 61, 1, 121), (12, 64, 1, 188), (12, 65, 1, 122), (12, 68, 1, 190), (12, 69, 1, 123), (12, 73, 1, 192), (12, 74, 1, 124), (12, 77, 1, 193), (12, 78, 1, 125), (12, 82, 1, 195), (12, 83, 1, 126), (12, 86, 1, 196), (12, 87, 1, 127), (12, 91, 1, 198), (12, 92, 1, 128), (12, 96, 1, 199), (12, 97, 1, 129), (12, 100, 1, 200), (12, 101, 1, 130), (12, 104, 1, 201), (12, 105, 1, 131), (12, 108, 1, 204), (12, 109, 1, 132), (12, 112, 1, 205), (12, 113, 1, 133), (12, 116, 1, 206), (12, 117, 1, 134), (12, 120, 1, 207), (12, 121, 1, 135), (12, 124, 1, 208), (12, 125, 1, 136), (12, 128, 1, 209)]
def NT : List (Nat × Nat × Nat) := [(0, 9, 6), (1, 9, 6), (2, 7, 6), (2, 16, 5), (7, 7, 6), (7, 16, 3), (7, 23, 1), (7, 30, 4), (7, 37, 0), (7, 44, 5), (7, 51, 2), (12, 7, 7), (12, 10, 8)]
def CT : List (Nat × Nat × Int) := [(7, 247, 65537), (8, 165, 1000000), (8, 196, 65537), (13, 265, 1431655765), (13, 266, 858993459), (13, 267, 252645135)]
def LT : List (Nat × Nat × Int) := [(9, 32, 10), (7, 203, (-1000000000000000002)), (7, 224, (-1000000000000000003)), (8, 173, (-1000000000000000002)), (8, 175, 10), (8, 185, (-1000000000000000003))]
def ST : List (Nat × Nat × Nat) := [(11, 15, 0), (11, 19, 1), (11, 22, 2)]
def OT : List (Nat × Nat) := [(0, 3), (1, 3), (2, 1), (3, 3), (4, 3), (5, 3), (6, 3), (7, 1), (8, 1)]
def NST : List (Nat × Nat × Nat × String) := [(7, 18, 28, "FourRods"), (7, 25, 13, "FourRods"), (7, 32, 45, "FourRods"), (7, 39, 7, "FourRods"), (7, 46, 62, "FourRods"), (7, 53, 25, "FourRods"), (2, 18, 62, "FourRods"), (3, 67, 140, "FourRods"), (6, 31, 144, "FourRods"), (6, 102, 143, "FourRods"), (5, 25, 144, "FourRods")]
def SNm : List String := ["SIDES", "MEN", "GAPS"]
end
section
-- code tables: pc, instruction, next pc, resolved operands
def tb_Chances_part_0 : List (Nat × EN) := [(0, .lload_n 0, 1, 0, 0, 0), (1, .lload_n 2, 2, 0, 0, 0), (2, .invokestatic 9, 5, 1, 0, 0), (5, .lstore 5, 7, 0, 0, 0), (7, .lload 5, 9, 0, 0, 0), (9, .lconst 0, 10, 0, 0, 0), (10, .lcmp, 11, 0, 0, 0), (11, .ifCond .ne 5, 14, 16, 0, 0), (14, .lconst 0, 15, 0, 0, 0), (15, .lreturn, 16, 0, 0, 0), (16, .iload 4, 18, 0, 0, 0), (18, .ifCond .ne 7, 21, 25, 0, 0), (21, .lload_n 0, 22, 0, 0, 0), (22, .goto 4, 25, 26, 0, 0), (25, .lload_n 2, 26, 0, 0, 0), (26, .lload 5, 28, 0, 0, 0), (28, .ldiv, 29, 0, 0, 0), (29, .lreturn, 30, 0, 0, 0)]
def tb_Chances_part : List (Nat × EN) := tb_Chances_part_0
def tb_Chances_commonDivisor_0 : List (Nat × EN) := [(0, .lload_n 2, 1, 0, 0, 0), (1, .lstore 4, 3, 0, 0, 0), (3, .lload_n 0, 4, 0, 0, 0), (4, .lstore 6, 6, 0, 0, 0), (6, .iconst 0, 7, 0, 0, 0), (7, .istore 8, 9, 0, 0, 0), (9, .iload 8, 11, 0, 0, 0), (11, .sipush 200, 14, 0, 0, 0), (14, .if_icmp .ge 31, 17, 45, 0, 0), (17, .lload 6, 19, 0, 0, 0), (19, .lconst 0, 20, 0, 0, 0), (20, .lcmp, 21, 0, 0, 0), (21, .ifCond .eq 24, 24, 45, 0, 0), (24, .lload 4, 26, 0, 0, 0), (26, .lload 6, 28, 0, 0, 0), (28, .lrem, 29, 0, 0, 0), (29, .lstore 9, 31, 0, 0, 0), (31, .lload 6, 33, 0, 0, 0), (33, .lstore 4, 35, 0, 0, 0), (35, .lload 9, 37, 0, 0, 0), (37, .lstore 6, 39, 0, 0, 0), (39, .iinc 8 1, 42, 0, 0, 0), (42, .goto (-33), 45, 9, 0, 0), (45, .lload 4, 47, 0, 0, 0), (47, .lreturn, 48, 0, 0, 0)]
def tb_Chances_commonDivisor : List (Nat × EN) := tb_Chances_commonDivisor_0
def tb_Chances_mixed_0 : List (Nat × EN) := [(0, .iload_n 0, 1, 0, 0, 0), (1, .iload_n 1, 2, 0, 0, 0), (2, .isub, 3, 0, 0, 0), (3, .iload_n 2, 4, 0, 0, 0), (4, .isub, 5, 0, 0, 0), (5, .iload_n 3, 6, 0, 0, 0), (6, .iadd, 7, 0, 0, 0), (7, .ifCond .ge 7, 10, 14, 0, 0), (10, .iconst 1, 11, 0, 0, 0), (11, .goto 4, 14, 15, 0, 0), (14, .iconst 0, 15, 0, 0, 0), (15, .istore 6, 17, 0, 0, 0), (17, .iload 6, 19, 0, 0, 0), (19, .ifCond .eq 17, 22, 36, 0, 0), (22, .iload_n 1, 23, 0, 0, 0), (23, .iload_n 0, 24, 0, 0, 0), (24, .iload_n 3, 25, 0, 0, 0), (25, .iload_n 2, 26, 0, 0, 0), (26, .iload 4, 28, 0, 0, 0), (28, .iload 5, 30, 0, 0, 0), (30, .invokestatic 15, 33, 3, 0, 0), (33, .goto 14, 36, 47, 0, 0), (36, .iload_n 0, 37, 0, 0, 0), (37, .iload_n 1, 38, 0, 0, 0), (38, .iload_n 2, 39, 0, 0, 0), (39, .iload_n 3, 40, 0, 0, 0), (40, .iload 4, 42, 0, 0, 0), (42, .iload 5, 44, 0, 0, 0), (44, .invokestatic 15, 47, 3, 0, 0), (47, .lreturn, 48, 0, 0, 0)]
def tb_Chances_mixed : List (Nat × EN) := tb_Chances_mixed_0
def tb_Chances_mixedInOrder_0 : List (Nat × EN) := [(0, .iload_n 0, 1, 0, 0, 0), (1, .iload_n 1, 2, 0, 0, 0), (2, .invokestatic 19, 5, 214, 0, 0), (5, .istore 6, 7, 0, 0, 0), (7, .iload_n 2, 8, 0, 0, 0), (8, .iload_n 3, 9, 0, 0, 0), (9, .invokestatic 19, 12, 214, 0, 0), (12, .istore 7, 14, 0, 0, 0), (14, .iload 6, 16, 0, 0, 0), (16, .iload 7, 18, 0, 0, 0), (18, .invokestatic 25, 21, 213, 0, 0), (21, .istore 8, 23, 0, 0, 0), (23, .iload_n 0, 24, 0, 0, 0), (24, .iload_n 1, 25, 0, 0, 0), (25, .isub, 26, 0, 0, 0), (26, .iload_n 2, 27, 0, 0, 0), (27, .isub, 28, 0, 0, 0), (28, .iload_n 3, 29, 0, 0, 0), (29, .iadd, 30, 0, 0, 0), (30, .istore 9, 32, 0, 0, 0), (32, .iload_n 0, 33, 0, 0, 0), (33, .iload_n 3, 34, 0, 0, 0), (34, .imul, 35, 0, 0, 0), (35, .iload_n 1, 36, 0, 0, 0), (36, .iload_n 2, 37, 0, 0, 0), (37, .imul, 38, 0, 0, 0), (38, .isub, 39, 0, 0, 0), (39, .istore 10, 41, 0, 0, 0), (41, .iload_n 3, 42, 0, 0, 0), (42, .iload_n 2, 43, 0, 0, 0), (43, .isub, 44, 0, 0, 0), (44, .istore 11, 46, 0, 0, 0), (46, .iload 11, 48, 0, 0, 0), (48, .ifCond .le 24, 51, 72, 0, 0), (51, .iload 11, 53, 0, 0, 0), (53, .iload 9, 55, 0, 0, 0), (55, .if_icmp .ge 17, 58, 72, 0, 0), (58, .iload 10, 60, 0, 0, 0), (60, .iload 8, 62, 0, 0, 0), (62, .iload 9, 64, 0, 0, 0), (64, .imul, 65, 0, 0, 0), (65, .if_icmp .le 7, 68, 72, 0, 0), (68, .iconst 1, 69, 0, 0, 0), (69, .goto 4, 72, 73, 0, 0), (72, .iconst 0, 73, 0, 0, 0), (73, .istore 12, 75, 0, 0, 0), (75, .iload 4, 77, 0, 0, 0), (77, .ifCond .ne 37, 80, 114, 0, 0), (80, .iload 12, 82, 0, 0, 0), (82, .ifCond .eq 20, 85, 102, 0, 0), (85, .iload 10, 87, 0, 0, 0), (87, .i2l, 88, 0, 0, 0), (88, .bipush 10, 90, 0, 0, 0), (90, .iload 9, 92, 0, 0, 0), (92, .imul, 93, 0, 0, 0), (93, .i2l, 94, 0, 0, 0), (94, .iload 5, 96, 0, 0, 0), (96, .invokestatic 28, 99, 0, 0, 0), (99, .goto 14, 102, 113, 0, 0), (102, .iload 8, 104, 0, 0, 0)]
def tb_Chances_mixedInOrder_1 : List (Nat × EN) := [(104, .i2l, 105, 0, 0, 0), (105, .ldc2_w 32, 108, 0, 0, 10), (108, .iload 5, 110, 0, 0, 0), (110, .invokestatic 28, 113, 0, 0, 0), (113, .lreturn, 114, 0, 0, 0), (114, .iload 12, 116, 0, 0, 0), (116, .ifCond .eq 15, 119, 131, 0, 0), (119, .iload 11, 121, 0, 0, 0), (121, .i2l, 122, 0, 0, 0), (122, .iload 9, 124, 0, 0, 0), (124, .i2l, 125, 0, 0, 0), (125, .iload 5, 127, 0, 0, 0), (127, .invokestatic 28, 130, 0, 0, 0), (130, .lreturn, 131, 0, 0, 0), (131, .iload 6, 133, 0, 0, 0), (133, .iload 7, 135, 0, 0, 0), (135, .if_icmp .lt 7, 138, 142, 0, 0), (138, .lconst 1, 139, 0, 0, 0), (139, .goto 4, 142, 143, 0, 0), (142, .lconst 0, 143, 0, 0, 0), (143, .lconst 1, 144, 0, 0, 0), (144, .iload 5, 146, 0, 0, 0), (146, .invokestatic 28, 149, 0, 0, 0), (149, .lreturn, 150, 0, 0, 0)]
def tb_Chances_mixedInOrder : List (Nat × EN) := tb_Chances_mixedInOrder_0 ++ tb_Chances_mixedInOrder_1
def tb_Chances_isTheFirst_0 : List (Nat × EN) := [(0, .iload_n 0, 1, 0, 0, 0), (1, .iload_n 3, 2, 0, 0, 0), (2, .invokestatic 34, 5, 6, 0, 0), (5, .bipush 10, 7, 0, 0, 0), (7, .iload_n 0, 8, 0, 0, 0), (8, .isub, 9, 0, 0, 0), (9, .iload_n 2, 10, 0, 0, 0), (10, .iload_n 3, 11, 0, 0, 0), (11, .isub, 12, 0, 0, 0), (12, .invokestatic 34, 15, 6, 0, 0), (15, .lmul, 16, 0, 0, 0), (16, .lstore 5, 18, 0, 0, 0), (18, .iload_n 1, 19, 0, 0, 0), (19, .iload_n 3, 20, 0, 0, 0), (20, .invokestatic 34, 23, 6, 0, 0), (23, .bipush 10, 25, 0, 0, 0), (25, .iload_n 1, 26, 0, 0, 0), (26, .isub, 27, 0, 0, 0), (27, .iload_n 2, 28, 0, 0, 0), (28, .iload_n 3, 29, 0, 0, 0), (29, .isub, 30, 0, 0, 0), (30, .invokestatic 34, 33, 6, 0, 0), (33, .lmul, 34, 0, 0, 0), (34, .lstore 7, 36, 0, 0, 0), (36, .lload 5, 38, 0, 0, 0), (38, .lconst 0, 39, 0, 0, 0), (39, .lcmp, 40, 0, 0, 0), (40, .ifCond .ne 11, 43, 51, 0, 0), (43, .lconst 0, 44, 0, 0, 0), (44, .lconst 1, 45, 0, 0, 0), (45, .iload 4, 47, 0, 0, 0), (47, .invokestatic 28, 50, 0, 0, 0), (50, .lreturn, 51, 0, 0, 0), (51, .lload 5, 53, 0, 0, 0), (53, .lload 5, 55, 0, 0, 0), (55, .lload 7, 57, 0, 0, 0), (57, .ladd, 58, 0, 0, 0), (58, .iload 4, 60, 0, 0, 0), (60, .invokestatic 28, 63, 0, 0, 0), (63, .lreturn, 64, 0, 0, 0)]
def tb_Chances_isTheFirst : List (Nat × EN) := tb_Chances_isTheFirst_0
def tb_Chances_winsRace_0 : List (Nat × EN) := [(0, .lconst 0, 1, 0, 0, 0), (1, .lstore 4, 3, 0, 0, 0), (3, .lconst 1, 4, 0, 0, 0), (4, .lstore 6, 6, 0, 0, 0), (6, .iconst 0, 7, 0, 0, 0), (7, .istore 8, 9, 0, 0, 0), (9, .iload 8, 11, 0, 0, 0), (11, .iload_n 1, 12, 0, 0, 0), (12, .if_icmp .ge 60, 15, 72, 0, 0), (15, .lload 4, 17, 0, 0, 0), (17, .lload 6, 19, 0, 0, 0), (19, .iload_n 2, 20, 0, 0, 0), (20, .iload_n 0, 21, 0, 0, 0), (21, .invokestatic 34, 24, 6, 0, 0), (24, .lmul, 25, 0, 0, 0), (25, .bipush 10, 27, 0, 0, 0), (27, .iload_n 2, 28, 0, 0, 0), (28, .isub, 29, 0, 0, 0), (29, .iload 8, 31, 0, 0, 0), (31, .invokestatic 34, 34, 6, 0, 0), (34, .lmul, 35, 0, 0, 0), (35, .bipush 10, 37, 0, 0, 0), (37, .iload_n 1, 38, 0, 0, 0), (38, .iconst 1, 39, 0, 0, 0), (39, .isub, 40, 0, 0, 0), (40, .iload 8, 42, 0, 0, 0), (42, .isub, 43, 0, 0, 0), (43, .invokestatic 34, 46, 6, 0, 0), (46, .lmul, 47, 0, 0, 0), (47, .ladd, 48, 0, 0, 0), (48, .lstore 4, 50, 0, 0, 0), (50, .lload 6, 52, 0, 0, 0), (52, .iload_n 0, 53, 0, 0, 0), (53, .iload 8, 55, 0, 0, 0), (55, .iadd, 56, 0, 0, 0), (56, .i2l, 57, 0, 0, 0), (57, .lmul, 58, 0, 0, 0), (58, .iload 8, 60, 0, 0, 0), (60, .iconst 1, 61, 0, 0, 0), (61, .iadd, 62, 0, 0, 0), (62, .i2l, 63, 0, 0, 0), (63, .ldiv, 64, 0, 0, 0), (64, .lstore 6, 66, 0, 0, 0), (66, .iinc 8 1, 69, 0, 0, 0), (69, .goto (-60), 72, 9, 0, 0), (72, .lload 4, 74, 0, 0, 0), (74, .bipush 10, 76, 0, 0, 0), (76, .iload_n 0, 77, 0, 0, 0), (77, .iload_n 1, 78, 0, 0, 0), (78, .iadd, 79, 0, 0, 0), (79, .iconst 1, 80, 0, 0, 0), (80, .isub, 81, 0, 0, 0), (81, .invokestatic 34, 84, 6, 0, 0), (84, .iload_n 3, 85, 0, 0, 0), (85, .invokestatic 28, 88, 0, 0, 0), (88, .lreturn, 89, 0, 0, 0)]
def tb_Chances_winsRace : List (Nat × EN) := tb_Chances_winsRace_0
def tb_Chances_power_0 : List (Nat × EN) := [(0, .lconst 1, 1, 0, 0, 0), (1, .lstore_n 2, 2, 0, 0, 0), (2, .iconst 0, 3, 0, 0, 0), (3, .istore 4, 5, 0, 0, 0), (5, .iload 4, 7, 0, 0, 0), (7, .iload_n 1, 8, 0, 0, 0), (8, .if_icmp .ge 14, 11, 22, 0, 0), (11, .lload_n 2, 12, 0, 0, 0), (12, .iload_n 0, 13, 0, 0, 0), (13, .i2l, 14, 0, 0, 0), (14, .lmul, 15, 0, 0, 0), (15, .lstore_n 2, 16, 0, 0, 0), (16, .iinc 4 1, 19, 0, 0, 0), (19, .goto (-14), 22, 5, 0, 0), (22, .lload_n 2, 23, 0, 0, 0), (23, .lreturn, 24, 0, 0, 0)]
def tb_Chances_power : List (Nat × EN) := tb_Chances_power_0
def tb_Defence_init_0 : List (Nat × EN) := [(0, .aload_n 0, 1, 0, 0, 0), (1, .invokespecial 3, 4, 0, 5, 0), (4, .aload_n 0, 5, 0, 0, 0), (5, .new 9, 8, 6, 0, 0), (8, .dup, 9, 0, 0, 0), (9, .invokespecial 11, 12, 74, 2, 0), (12, .putfield 12, 15, 0, 0, 2), (15, .aload_n 0, 16, 0, 0, 0), (16, .bipush 41, 18, 0, 0, 0), (18, .newarray .int, 20, 0, 0, 0), (20, .putfield 18, 23, 0, 1, 2), (23, .return_, 24, 0, 0, 0)]
def tb_Defence_init : List (Nat × EN) := tb_Defence_init_0
def tb_Defence_letIn_0 : List (Nat × EN) := [(0, .aload_n 0, 1, 0, 0, 0), (1, .getfield 22, 4, 0, 2, 0), (4, .ireturn, 5, 0, 0, 0)]
def tb_Defence_letIn : List (Nat × EN) := tb_Defence_letIn_0
def tb_Defence_slides_0 : List (Nat × EN) := [(0, .aload_n 0, 1, 0, 0, 0), (1, .getfield 26, 4, 0, 3, 0), (4, .ireturn, 5, 0, 0, 0)]
def tb_Defence_slides : List (Nat × EN) := tb_Defence_slides_0
def tb_Defence_place_0 : List (Nat × EN) := [(0, .aload_n 0, 1, 0, 0, 0), (1, .getfield 12, 4, 0, 0, 2), (4, .aload_n 1, 5, 0, 0, 0), (5, .invokevirtual 29, 8, 75, 1, 0), (8, .iconst 1, 9, 0, 0, 0), (9, .aload_n 0, 10, 0, 0, 0), (10, .getfield 12, 13, 0, 0, 2), (13, .invokevirtual 33, 16, 87, 1, 0), (16, .invokestatic 37, 19, 54, 0, 0), (19, .isub, 20, 0, 0, 0), (20, .istore_n 2, 21, 0, 0, 0), (21, .iload_n 2, 22, 0, 0, 0), (22, .invokestatic 43, 25, 59, 0, 0), (25, .istore_n 3, 26, 0, 0, 0), (26, .iload_n 2, 27, 0, 0, 0), (27, .invokestatic 46, 30, 60, 0, 0), (30, .istore 4, 32, 0, 0, 0), (32, .aload_n 0, 33, 0, 0, 0), (33, .iload_n 2, 34, 0, 0, 0), (34, .invokevirtual 49, 37, 11, 1, 0), (37, .istore 5, 39, 0, 0, 0), (39, .iload 4, 41, 0, 0, 0), (41, .invokestatic 52, 44, 57, 0, 0), (44, .istore 6, 46, 0, 0, 0), (46, .iconst 0, 47, 0, 0, 0), (47, .istore 7, 49, 0, 0, 0), (49, .iload 7, 51, 0, 0, 0), (51, .iload 6, 53, 0, 0, 0), (53, .if_icmp .gt 49, 56, 102, 0, 0), (56, .iload 7, 58, 0, 0, 0), (58, .aload_n 0, 59, 0, 0, 0), (59, .getfield 18, 62, 0, 1, 2), (62, .arraylength, 63, 0, 0, 0), (63, .if_icmp .ge 39, 66, 102, 0, 0), (66, .aload_n 0, 67, 0, 0, 0), (67, .getfield 12, 70, 0, 0, 2), (70, .iload 4, 72, 0, 0, 0), (72, .iload 7, 74, 0, 0, 0), (74, .invokevirtual 55, 77, 77, 1, 0), (77, .aload_n 0, 78, 0, 0, 0), (78, .getfield 18, 81, 0, 1, 2), (81, .iload 7, 83, 0, 0, 0), (83, .iload 5, 85, 0, 0, 0), (85, .aload_n 0, 86, 0, 0, 0), (86, .getfield 12, 89, 0, 0, 2), (89, .iload 4, 91, 0, 0, 0), (91, .invokevirtual 59, 94, 99, 1, 0), (94, .iand, 95, 0, 0, 0), (95, .iastore, 96, 0, 0, 0), (96, .iinc 7 1, 99, 0, 0, 0), (99, .goto (-50), 102, 49, 0, 0), (102, .aload_n 0, 103, 0, 0, 0), (103, .bipush 20, 105, 0, 0, 0), (105, .putfield 22, 108, 0, 2, 0), (108, .iconst 0, 109, 0, 0, 0), (109, .istore 7, 111, 0, 0, 0), (111, .iload 7, 113, 0, 0, 0), (113, .iload_n 3, 114, 0, 0, 0), (114, .invokestatic 52, 117, 57, 0, 0), (117, .if_icmp .gt 35, 120, 152, 0, 0)]
def tb_Defence_place_1 : List (Nat × EN) := [(120, .aload_n 0, 121, 0, 0, 0), (121, .getfield 12, 124, 0, 0, 2), (124, .iload_n 3, 125, 0, 0, 0), (125, .iload 7, 127, 0, 0, 0), (127, .invokevirtual 55, 130, 77, 1, 0), (130, .aload_n 0, 131, 0, 0, 0), (131, .iload 7, 133, 0, 0, 0), (133, .aload_n 0, 134, 0, 0, 0), (134, .getfield 12, 137, 0, 0, 2), (137, .iload_n 3, 138, 0, 0, 0), (138, .invokevirtual 59, 141, 99, 1, 0), (141, .iload 6, 143, 0, 0, 0), (143, .invokevirtual 62, 146, 12, 1, 0), (146, .iinc 7 1, 149, 0, 0, 0), (149, .goto (-38), 152, 111, 0, 0), (152, .return_, 153, 0, 0, 0)]
def tb_Defence_place : List (Nat × EN) := tb_Defence_place_0 ++ tb_Defence_place_1
def tb_Defence_shotsPastOthers_0 : List (Nat × EN) := [(0, .aload_n 0, 1, 0, 0, 0), (1, .getfield 12, 4, 0, 0, 2), (4, .invokevirtual 66, 7, 98, 1, 0), (7, .istore_n 2, 8, 0, 0, 0), (8, .iconst 1, 9, 0, 0, 0), (9, .iload_n 1, 10, 0, 0, 0), (10, .isub, 11, 0, 0, 0), (11, .invokestatic 69, 14, 61, 0, 0), (14, .istore_n 3, 15, 0, 0, 0), (15, .iconst 1, 16, 0, 0, 0), (16, .istore 4, 18, 0, 0, 0), (18, .iload 4, 20, 0, 0, 0), (20, .bipush 8, 22, 0, 0, 0), (22, .if_icmp .ge 74, 25, 96, 0, 0), (25, .aload_n 0, 26, 0, 0, 0), (26, .getfield 12, 29, 0, 0, 2), (29, .invokevirtual 33, 32, 87, 1, 0), (32, .iload 4, 34, 0, 0, 0), (34, .iload_n 3, 35, 0, 0, 0), (35, .imul, 36, 0, 0, 0), (36, .iadd, 37, 0, 0, 0), (37, .istore 5, 39, 0, 0, 0), (39, .iload 5, 41, 0, 0, 0), (41, .iload_n 1, 42, 0, 0, 0), (42, .invokestatic 43, 45, 59, 0, 0), (45, .if_icmp .eq 12, 48, 57, 0, 0), (48, .iload 5, 50, 0, 0, 0), (50, .iload_n 1, 51, 0, 0, 0), (51, .invokestatic 46, 54, 60, 0, 0), (54, .if_icmp .ne 7, 57, 61, 0, 0), (57, .iconst 1, 58, 0, 0, 0), (58, .goto 4, 61, 62, 0, 0), (61, .iconst 0, 62, 0, 0, 0), (62, .istore 6, 64, 0, 0, 0), (64, .iload 5, 66, 0, 0, 0), (66, .iload_n 1, 67, 0, 0, 0), (67, .invokestatic 72, 70, 58, 0, 0), (70, .ifCond .eq 20, 73, 90, 0, 0), (73, .iload 6, 75, 0, 0, 0), (75, .ifCond .ne 15, 78, 90, 0, 0), (78, .iload_n 2, 79, 0, 0, 0), (79, .aload_n 0, 80, 0, 0, 0), (80, .getfield 12, 83, 0, 0, 2), (83, .iload 5, 85, 0, 0, 0), (85, .invokevirtual 59, 88, 99, 1, 0), (88, .iand, 89, 0, 0, 0), (89, .istore_n 2, 90, 0, 0, 0), (90, .iinc 4 1, 93, 0, 0, 0), (93, .goto (-75), 96, 18, 0, 0), (96, .iload_n 2, 97, 0, 0, 0), (97, .ireturn, 98, 0, 0, 0)]
def tb_Defence_shotsPastOthers : List (Nat × EN) := tb_Defence_shotsPastOthers_0
def tb_Defence_tryKeeper_0 : List (Nat × EN) := [(0, .iconst 0, 1, 0, 0, 0), (1, .istore 4, 3, 0, 0, 0), (3, .iload 4, 5, 0, 0, 0), (5, .iload_n 3, 6, 0, 0, 0), (6, .if_icmp .gt 59, 9, 65, 0, 0), (9, .iload 4, 11, 0, 0, 0), (11, .aload_n 0, 12, 0, 0, 0), (12, .getfield 18, 15, 0, 1, 2), (15, .arraylength, 16, 0, 0, 0), (16, .if_icmp .ge 49, 19, 65, 0, 0), (19, .aload_n 0, 20, 0, 0, 0), (20, .getfield 18, 23, 0, 1, 2), (23, .iload 4, 25, 0, 0, 0), (25, .iaload, 26, 0, 0, 0), (26, .iload_n 2, 27, 0, 0, 0), (27, .iand, 28, 0, 0, 0), (28, .invokestatic 76, 31, 210, 0, 0), (31, .istore 5, 33, 0, 0, 0), (33, .iload 5, 35, 0, 0, 0), (35, .aload_n 0, 36, 0, 0, 0), (36, .getfield 22, 39, 0, 2, 0), (39, .if_icmp .ge 20, 42, 59, 0, 0), (42, .aload_n 0, 43, 0, 0, 0), (43, .iload 5, 45, 0, 0, 0), (45, .putfield 22, 48, 0, 2, 0), (48, .aload_n 0, 49, 0, 0, 0), (49, .bipush 100, 51, 0, 0, 0), (51, .iload_n 1, 52, 0, 0, 0), (52, .imul, 53, 0, 0, 0), (53, .iload 4, 55, 0, 0, 0), (55, .iadd, 56, 0, 0, 0), (56, .putfield 26, 59, 0, 3, 0), (59, .iinc 4 1, 62, 0, 0, 0), (62, .goto (-59), 65, 3, 0, 0), (65, .return_, 66, 0, 0, 0)]
def tb_Defence_tryKeeper : List (Nat × EN) := tb_Defence_tryKeeper_0
def tb_Evening_init_0 : List (Nat × EN) := [(0, .aload_n 0, 1, 0, 0, 0), (1, .invokespecial 3, 4, 0, 5, 0), (4, .aload_n 0, 5, 0, 0, 0), (5, .new 9, 8, 6, 0, 0), (8, .dup, 9, 0, 0, 0), (9, .invokespecial 11, 12, 74, 2, 0), (12, .putfield 12, 15, 1, 0, 2), (15, .return_, 16, 0, 0, 0)]
def tb_Evening_init : List (Nat × EN) := tb_Evening_init_0
def tb_Evening_table_0 : List (Nat × EN) := [(0, .aload_n 0, 1, 0, 0, 0), (1, .getfield 12, 4, 1, 0, 2), (4, .areturn, 5, 0, 0, 0)]
def tb_Evening_table : List (Nat × EN) := tb_Evening_table_0
def tb_Evening_acts_0 : List (Nat × EN) := [(0, .aload_n 0, 1, 0, 0, 0), (1, .getfield 18, 4, 1, 1, 0), (4, .ireturn, 5, 0, 0, 0)]
def tb_Evening_acts : List (Nat × EN) := tb_Evening_acts_0
def tb_Evening_stoppedAt_0 : List (Nat × EN) := [(0, .aload_n 0, 1, 0, 0, 0), (1, .getfield 22, 4, 1, 2, 0), (4, .ireturn, 5, 0, 0, 0)]
def tb_Evening_stoppedAt : List (Nat × EN) := tb_Evening_stoppedAt_0
def tb_Evening_reason_0 : List (Nat × EN) := [(0, .aload_n 0, 1, 0, 0, 0), (1, .getfield 25, 4, 1, 3, 0), (4, .ireturn, 5, 0, 0, 0)]
def tb_Evening_reason : List (Nat × EN) := tb_Evening_reason_0
def tb_Evening_firstGoal_0 : List (Nat × EN) := [(0, .aload_n 0, 1, 0, 0, 0), (1, .getfield 28, 4, 1, 4, 0), (4, .ireturn, 5, 0, 0, 0)]
def tb_Evening_firstGoal : List (Nat × EN) := tb_Evening_firstGoal_0
def tb_Evening_play_0 : List (Nat × EN) := [(0, .aload_n 0, 1, 0, 0, 0), (1, .iconst 0, 2, 0, 0, 0), (2, .putfield 18, 5, 1, 1, 0), (5, .aload_n 0, 6, 0, 0, 0), (6, .bipush (-6), 8, 0, 0, 0), (8, .putfield 22, 11, 1, 2, 0), (11, .aload_n 0, 12, 0, 0, 0), (12, .bipush (-6), 14, 0, 0, 0), (14, .putfield 25, 17, 1, 3, 0), (17, .aload_n 0, 18, 0, 0, 0), (18, .bipush (-6), 20, 0, 0, 0), (20, .putfield 28, 23, 1, 4, 0), (23, .aload_n 1, 24, 0, 0, 0), (24, .ifnull 7, 27, 31, 0, 0), (27, .aload_n 2, 28, 0, 0, 0), (28, .ifnonnull 4, 31, 32, 0, 0), (31, .return_, 32, 0, 0, 0), (32, .aload_n 0, 33, 0, 0, 0), (33, .getfield 12, 36, 1, 0, 2), (36, .aload_n 1, 37, 0, 0, 0), (37, .invokevirtual 31, 40, 75, 1, 0), (40, .aload_n 2, 41, 0, 0, 0), (41, .invokevirtual 35, 44, 32, 1, 0), (44, .iconst 0, 45, 0, 0, 0), (45, .istore_n 3, 46, 0, 0, 0), (46, .iload_n 3, 47, 0, 0, 0), (47, .bipush 60, 49, 0, 0, 0), (49, .if_icmp .ge 132, 52, 181, 0, 0), (52, .aload_n 2, 53, 0, 0, 0), (53, .invokevirtual 40, 56, 33, 1, 0), (56, .ifCond .ne 125, 59, 181, 0, 0), (59, .aload_n 2, 60, 0, 0, 0), (60, .invokevirtual 44, 63, 38, 1, 0), (63, .ifCond .ne 4, 66, 67, 0, 0), (66, .return_, 67, 0, 0, 0), (67, .aload_n 0, 68, 0, 0, 0), (68, .getfield 12, 71, 1, 0, 2), (71, .aload_n 2, 72, 0, 0, 0), (72, .invokevirtual 47, 75, 34, 1, 0), (75, .aload_n 2, 76, 0, 0, 0), (76, .invokevirtual 51, 79, 35, 1, 0), (79, .aload_n 2, 80, 0, 0, 0), (80, .invokevirtual 54, 83, 36, 1, 0), (83, .invokevirtual 57, 86, 101, 1, 0), (86, .istore 4, 88, 0, 0, 0), (88, .iload 4, 90, 0, 0, 0), (90, .ifCond .eq 18, 93, 108, 0, 0), (93, .aload_n 0, 94, 0, 0, 0), (94, .aload_n 0, 95, 0, 0, 0), (95, .getfield 18, 98, 1, 1, 0), (98, .putfield 22, 101, 1, 2, 0), (101, .aload_n 0, 102, 0, 0, 0), (102, .iload 4, 104, 0, 0, 0), (104, .putfield 25, 107, 1, 3, 0), (107, .return_, 108, 0, 0, 0), (108, .aload_n 0, 109, 0, 0, 0), (109, .getfield 12, 112, 1, 0, 2), (112, .invokevirtual 61, 115, 80, 1, 0), (115, .istore 5, 117, 0, 0, 0), (117, .aload_n 0, 118, 0, 0, 0)]
def tb_Evening_play_1 : List (Nat × EN) := [(118, .getfield 12, 121, 1, 0, 2), (121, .aload_n 2, 122, 0, 0, 0), (122, .invokevirtual 47, 125, 34, 1, 0), (125, .aload_n 2, 126, 0, 0, 0), (126, .invokevirtual 51, 129, 35, 1, 0), (129, .aload_n 2, 130, 0, 0, 0), (130, .invokevirtual 54, 133, 36, 1, 0), (133, .invokevirtual 64, 136, 105, 1, 0), (136, .aload_n 0, 137, 0, 0, 0), (137, .getfield 28, 140, 1, 4, 0), (140, .bipush (-6), 142, 0, 0, 0), (142, .if_icmp .ne 23, 145, 165, 0, 0), (145, .aload_n 0, 146, 0, 0, 0), (146, .getfield 12, 149, 1, 0, 2), (149, .invokevirtual 61, 152, 80, 1, 0), (152, .iload 5, 154, 0, 0, 0), (154, .if_icmp .le 11, 157, 165, 0, 0), (157, .aload_n 0, 158, 0, 0, 0), (158, .aload_n 0, 159, 0, 0, 0), (159, .getfield 18, 162, 1, 1, 0), (162, .putfield 28, 165, 1, 4, 0), (165, .aload_n 0, 166, 0, 0, 0), (166, .dup, 167, 0, 0, 0), (167, .getfield 18, 170, 1, 1, 0), (170, .iconst 1, 171, 0, 0, 0), (171, .iadd, 172, 0, 0, 0), (172, .putfield 18, 175, 1, 1, 0), (175, .iinc 3 1, 178, 0, 0, 0), (178, .goto (-132), 181, 46, 0, 0), (181, .return_, 182, 0, 0, 0)]
def tb_Evening_play : List (Nat × EN) := tb_Evening_play_0 ++ tb_Evening_play_1
def tb_Grasps_isRow_0 : List (Nat × EN) := [(0, .iload_n 0, 1, 0, 0, 0), (1, .ifCond .ge 5, 4, 6, 0, 0), (4, .iconst 0, 5, 0, 0, 0), (5, .ireturn, 6, 0, 0, 0), (6, .iload_n 0, 7, 0, 0, 0), (7, .istore_n 2, 8, 0, 0, 0), (8, .iconst 0, 9, 0, 0, 0), (9, .istore_n 3, 10, 0, 0, 0), (10, .iload_n 3, 11, 0, 0, 0), (11, .iload_n 1, 12, 0, 0, 0), (12, .if_icmp .ge 24, 15, 36, 0, 0), (15, .iload_n 2, 16, 0, 0, 0), (16, .bipush 10, 18, 0, 0, 0), (18, .irem, 19, 0, 0, 0), (19, .iconst 4, 20, 0, 0, 0), (20, .if_icmp .lt 5, 23, 25, 0, 0), (23, .iconst 0, 24, 0, 0, 0), (24, .ireturn, 25, 0, 0, 0), (25, .iload_n 2, 26, 0, 0, 0), (26, .bipush 10, 28, 0, 0, 0), (28, .idiv, 29, 0, 0, 0), (29, .istore_n 2, 30, 0, 0, 0), (30, .iinc 3 1, 33, 0, 0, 0), (33, .goto (-23), 36, 10, 0, 0), (36, .iload_n 2, 37, 0, 0, 0), (37, .ifCond .ne 7, 40, 44, 0, 0), (40, .iconst 1, 41, 0, 0, 0), (41, .goto 4, 44, 45, 0, 0), (44, .iconst 0, 45, 0, 0, 0), (45, .ireturn, 46, 0, 0, 0)]
def tb_Grasps_isRow : List (Nat × EN) := tb_Grasps_isRow_0
def tb_Grasps_fewest_0 : List (Nat × EN) := [(0, .iconst 0, 1, 0, 0, 0), (1, .istore_n 2, 2, 0, 0, 0), (2, .iconst 0, 3, 0, 0, 0), (3, .istore_n 3, 4, 0, 0, 0), (4, .iconst 0, 5, 0, 0, 0), (5, .istore 4, 7, 0, 0, 0), (7, .iload 4, 9, 0, 0, 0), (9, .iload_n 1, 10, 0, 0, 0), (10, .if_icmp .ge 64, 13, 74, 0, 0), (13, .iload_n 0, 14, 0, 0, 0), (14, .iload_n 1, 15, 0, 0, 0), (15, .iload 4, 17, 0, 0, 0), (17, .invokestatic 11, 20, 22, 0, 0), (20, .istore 5, 22, 0, 0, 0), (22, .iload_n 2, 23, 0, 0, 0), (23, .iload 5, 25, 0, 0, 0), (25, .ishr, 26, 0, 0, 0), (26, .iconst 1, 27, 0, 0, 0), (27, .iand, 28, 0, 0, 0), (28, .iconst 1, 29, 0, 0, 0), (29, .if_icmp .ne 6, 32, 35, 0, 0), (32, .goto 36, 35, 68, 0, 0), (35, .iload_n 2, 36, 0, 0, 0), (36, .invokestatic 15, 39, 210, 0, 0), (39, .iconst 2, 40, 0, 0, 0), (40, .if_icmp .lt 18, 43, 58, 0, 0), (43, .iload_n 2, 44, 0, 0, 0), (44, .iconst 1, 45, 0, 0, 0), (45, .iload_n 0, 46, 0, 0, 0), (46, .iload_n 1, 47, 0, 0, 0), (47, .iload 4, 49, 0, 0, 0), (49, .iload_n 2, 50, 0, 0, 0), (50, .invokestatic 21, 53, 23, 0, 0), (53, .ishl, 54, 0, 0, 0), (54, .iconst (-1), 55, 0, 0, 0), (55, .ixor, 56, 0, 0, 0), (56, .iand, 57, 0, 0, 0), (57, .istore_n 2, 58, 0, 0, 0), (58, .iload_n 2, 59, 0, 0, 0), (59, .iconst 1, 60, 0, 0, 0), (60, .iload 5, 62, 0, 0, 0), (62, .ishl, 63, 0, 0, 0), (63, .ior, 64, 0, 0, 0), (64, .istore_n 2, 65, 0, 0, 0), (65, .iinc 3 1, 68, 0, 0, 0), (68, .iinc 4 1, 71, 0, 0, 0), (71, .goto (-64), 74, 7, 0, 0), (74, .iload_n 3, 75, 0, 0, 0), (75, .ireturn, 76, 0, 0, 0)]
def tb_Grasps_fewest : List (Nat × EN) := tb_Grasps_fewest_0
def tb_Grasps_needed_0 : List (Nat × EN) := [(0, .iload_n 0, 1, 0, 0, 0), (1, .istore_n 3, 2, 0, 0, 0), (2, .iload_n 2, 3, 0, 0, 0), (3, .iconst 1, 4, 0, 0, 0), (4, .iadd, 5, 0, 0, 0), (5, .istore 4, 7, 0, 0, 0), (7, .iload 4, 9, 0, 0, 0), (9, .iload_n 1, 10, 0, 0, 0), (10, .if_icmp .ge 14, 13, 24, 0, 0), (13, .iload_n 3, 14, 0, 0, 0), (14, .bipush 10, 16, 0, 0, 0), (16, .idiv, 17, 0, 0, 0), (17, .istore_n 3, 18, 0, 0, 0), (18, .iinc 4 1, 21, 0, 0, 0), (21, .goto (-14), 24, 7, 0, 0), (24, .iload_n 3, 25, 0, 0, 0), (25, .bipush 10, 27, 0, 0, 0), (27, .irem, 28, 0, 0, 0), (28, .ireturn, 29, 0, 0, 0)]
def tb_Grasps_needed : List (Nat × EN) := tb_Grasps_needed_0
def tb_Grasps_latest_0 : List (Nat × EN) := [(0, .iconst 0, 1, 0, 0, 0), (1, .istore 4, 3, 0, 0, 0), (3, .iconst (-1), 4, 0, 0, 0), (4, .istore 5, 6, 0, 0, 0), (6, .iconst 0, 7, 0, 0, 0), (7, .istore 6, 9, 0, 0, 0), (9, .iload 6, 11, 0, 0, 0), (11, .iconst 4, 12, 0, 0, 0), (12, .if_icmp .ge 46, 15, 58, 0, 0), (15, .iload_n 3, 16, 0, 0, 0), (16, .iload 6, 18, 0, 0, 0), (18, .ishr, 19, 0, 0, 0), (19, .iconst 1, 20, 0, 0, 0), (20, .iand, 21, 0, 0, 0), (21, .iconst 1, 22, 0, 0, 0), (22, .if_icmp .ne 30, 25, 52, 0, 0), (25, .iload_n 0, 26, 0, 0, 0), (26, .iload_n 1, 27, 0, 0, 0), (27, .iload_n 2, 28, 0, 0, 0), (28, .iload 6, 30, 0, 0, 0), (30, .invokestatic 25, 33, 24, 0, 0), (33, .iload 5, 35, 0, 0, 0), (35, .if_icmp .le 17, 38, 52, 0, 0), (38, .iload 6, 40, 0, 0, 0), (40, .istore 4, 42, 0, 0, 0), (42, .iload_n 0, 43, 0, 0, 0), (43, .iload_n 1, 44, 0, 0, 0), (44, .iload_n 2, 45, 0, 0, 0), (45, .iload 6, 47, 0, 0, 0), (47, .invokestatic 25, 50, 24, 0, 0), (50, .istore 5, 52, 0, 0, 0), (52, .iinc 6 1, 55, 0, 0, 0), (55, .goto (-46), 58, 9, 0, 0), (58, .iload 4, 60, 0, 0, 0), (60, .ireturn, 61, 0, 0, 0)]
def tb_Grasps_latest : List (Nat × EN) := tb_Grasps_latest_0
def tb_Grasps_nextNeed_0 : List (Nat × EN) := [(0, .iload_n 2, 1, 0, 0, 0), (1, .iconst 1, 2, 0, 0, 0), (2, .iadd, 3, 0, 0, 0), (3, .istore 4, 5, 0, 0, 0), (5, .iload 4, 7, 0, 0, 0), (7, .iload_n 1, 8, 0, 0, 0), (8, .if_icmp .ge 23, 11, 31, 0, 0), (11, .iload_n 0, 12, 0, 0, 0), (12, .iload_n 1, 13, 0, 0, 0), (13, .iload 4, 15, 0, 0, 0), (15, .invokestatic 11, 18, 22, 0, 0), (18, .iload_n 3, 19, 0, 0, 0), (19, .if_icmp .ne 6, 22, 25, 0, 0), (22, .iload 4, 24, 0, 0, 0), (24, .ireturn, 25, 0, 0, 0), (25, .iinc 4 1, 28, 0, 0, 0), (28, .goto (-23), 31, 5, 0, 0), (31, .iload_n 1, 32, 0, 0, 0), (32, .ireturn, 33, 0, 0, 0)]
def tb_Grasps_nextNeed : List (Nat × EN) := tb_Grasps_nextNeed_0
def tb_Image_init_0 : List (Nat × EN) := [(0, .aload_n 0, 1, 0, 0, 0), (1, .invokespecial 1, 4, 0, 5, 0), (4, .aload_n 0, 5, 0, 0, 0), (5, .new 7, 8, 6, 0, 0), (8, .dup, 9, 0, 0, 0), (9, .invokespecial 9, 12, 74, 2, 0), (12, .putfield 10, 15, 2, 0, 2), (15, .aload_n 0, 16, 0, 0, 0), (16, .new 16, 19, 5, 0, 0), (19, .dup, 20, 0, 0, 0), (20, .invokespecial 18, 23, 62, 4, 0), (23, .putfield 19, 26, 2, 1, 2), (26, .return_, 27, 0, 0, 0)]
def tb_Image_init : List (Nat × EN) := tb_Image_init_0
def tb_Image_keep_0 : List (Nat × EN) := [(0, .aload_n 0, 1, 0, 0, 0), (1, .getfield 10, 4, 2, 0, 2), (4, .aload_n 1, 5, 0, 0, 0), (5, .invokevirtual 23, 8, 75, 1, 0), (8, .aload_n 0, 9, 0, 0, 0), (9, .getfield 19, 12, 2, 1, 2), (12, .aload_n 2, 13, 0, 0, 0), (13, .invokevirtual 27, 16, 66, 1, 0), (16, .aload_n 0, 17, 0, 0, 0), (17, .iconst 1, 18, 0, 0, 0), (18, .putfield 30, 21, 2, 2, 1), (21, .return_, 22, 0, 0, 0)]
def tb_Image_keep : List (Nat × EN) := tb_Image_keep_0
def tb_Image_giveBack_0 : List (Nat × EN) := [(0, .aload_n 0, 1, 0, 0, 0), (1, .getfield 30, 4, 2, 2, 1), (4, .ifCond .eq 11, 7, 15, 0, 0), (7, .aload_n 1, 8, 0, 0, 0), (8, .ifnull 7, 11, 15, 0, 0), (11, .aload_n 2, 12, 0, 0, 0), (12, .ifnonnull 5, 15, 17, 0, 0), (15, .iconst 0, 16, 0, 0, 0), (16, .ireturn, 17, 0, 0, 0), (17, .aload_n 1, 18, 0, 0, 0), (18, .aload_n 0, 19, 0, 0, 0), (19, .getfield 10, 22, 2, 0, 2), (22, .invokevirtual 23, 25, 75, 1, 0), (25, .aload_n 2, 26, 0, 0, 0), (26, .aload_n 0, 27, 0, 0, 0), (27, .getfield 19, 30, 2, 1, 2), (30, .invokevirtual 27, 33, 66, 1, 0), (33, .iconst 1, 34, 0, 0, 0), (34, .ireturn, 35, 0, 0, 0)]
def tb_Image_giveBack : List (Nat × EN) := tb_Image_giveBack_0
def tb_Pad_init_0 : List (Nat × EN) := [(0, .aload_n 0, 1, 0, 0, 0), (1, .invokespecial 3, 4, 0, 5, 0), (4, .aload_n 0, 5, 0, 0, 0), (5, .bipush 60, 7, 0, 0, 0), (7, .newarray .int, 9, 0, 0, 0), (9, .putfield 9, 12, 3, 0, 2), (12, .return_, 13, 0, 0, 0)]
def tb_Pad_init : List (Nat × EN) := tb_Pad_init_0
def tb_Pad_size_0 : List (Nat × EN) := [(0, .aload_n 0, 1, 0, 0, 0), (1, .getfield 15, 4, 3, 1, 0), (4, .ireturn, 5, 0, 0, 0)]
def tb_Pad_size : List (Nat × EN) := tb_Pad_size_0
def tb_Pad_add_0 : List (Nat × EN) := [(0, .aload_n 0, 1, 0, 0, 0), (1, .getfield 15, 4, 3, 1, 0), (4, .ifCond .lt 15, 7, 19, 0, 0), (7, .aload_n 0, 8, 0, 0, 0), (8, .getfield 15, 11, 3, 1, 0), (11, .aload_n 0, 12, 0, 0, 0), (12, .getfield 9, 15, 3, 0, 2), (15, .arraylength, 16, 0, 0, 0), (16, .if_icmp .lt 5, 19, 21, 0, 0), (19, .iconst 0, 20, 0, 0, 0), (20, .ireturn, 21, 0, 0, 0), (21, .aload_n 0, 22, 0, 0, 0), (22, .getfield 9, 25, 3, 0, 2), (25, .aload_n 0, 26, 0, 0, 0), (26, .getfield 15, 29, 3, 1, 0), (29, .iload_n 1, 30, 0, 0, 0), (30, .iastore, 31, 0, 0, 0), (31, .aload_n 0, 32, 0, 0, 0), (32, .dup, 33, 0, 0, 0), (33, .getfield 15, 36, 3, 1, 0), (36, .iconst 1, 37, 0, 0, 0), (37, .iadd, 38, 0, 0, 0), (38, .putfield 15, 41, 3, 1, 0), (41, .iconst 1, 42, 0, 0, 0), (42, .ireturn, 43, 0, 0, 0)]
def tb_Pad_add : List (Nat × EN) := tb_Pad_add_0
def tb_Pad_clear_0 : List (Nat × EN) := [(0, .aload_n 0, 1, 0, 0, 0), (1, .iconst 0, 2, 0, 0, 0), (2, .putfield 15, 5, 3, 1, 0), (5, .return_, 6, 0, 0, 0)]
def tb_Pad_clear : List (Nat × EN) := tb_Pad_clear_0
def tb_Pad_rewind_0 : List (Nat × EN) := [(0, .aload_n 0, 1, 0, 0, 0), (1, .iconst 0, 2, 0, 0, 0), (2, .putfield 19, 5, 3, 2, 0), (5, .return_, 6, 0, 0, 0)]
def tb_Pad_rewind : List (Nat × EN) := tb_Pad_rewind_0
def tb_Pad_isReadOut_0 : List (Nat × EN) := [(0, .aload_n 0, 1, 0, 0, 0), (1, .getfield 19, 4, 3, 2, 0), (4, .aload_n 0, 5, 0, 0, 0), (5, .getfield 15, 8, 3, 1, 0), (8, .if_icmp .lt 7, 11, 15, 0, 0), (11, .iconst 1, 12, 0, 0, 0), (12, .goto 4, 15, 16, 0, 0), (15, .iconst 0, 16, 0, 0, 0), (16, .ireturn, 17, 0, 0, 0)]
def tb_Pad_isReadOut : List (Nat × EN) := tb_Pad_isReadOut_0
def tb_Pad_kind_0 : List (Nat × EN) := [(0, .aload_n 0, 1, 0, 0, 0), (1, .getfield 22, 4, 3, 3, 0), (4, .ireturn, 5, 0, 0, 0)]
def tb_Pad_kind : List (Nat × EN) := tb_Pad_kind_0
def tb_Pad_rod_0 : List (Nat × EN) := [(0, .aload_n 0, 1, 0, 0, 0), (1, .getfield 25, 4, 3, 4, 0), (4, .ireturn, 5, 0, 0, 0)]
def tb_Pad_rod : List (Nat × EN) := tb_Pad_rod_0
def tb_Pad_number_0 : List (Nat × EN) := [(0, .aload_n 0, 1, 0, 0, 0), (1, .getfield 28, 4, 3, 5, 0), (4, .ireturn, 5, 0, 0, 0)]
def tb_Pad_number : List (Nat × EN) := tb_Pad_number_0
def tb_Pad_faultPlace_0 : List (Nat × EN) := [(0, .aload_n 0, 1, 0, 0, 0), (1, .invokevirtual 31, 4, 32, 1, 0), (4, .iconst 0, 5, 0, 0, 0), (5, .istore_n 1, 6, 0, 0, 0), (6, .iload_n 1, 7, 0, 0, 0), (7, .bipush 60, 9, 0, 0, 0), (9, .if_icmp .ge 28, 12, 37, 0, 0), (12, .aload_n 0, 13, 0, 0, 0), (13, .invokevirtual 34, 16, 33, 1, 0), (16, .ifCond .ne 21, 19, 37, 0, 0), (19, .aload_n 0, 20, 0, 0, 0), (20, .invokevirtual 38, 23, 38, 1, 0), (23, .ifCond .ne 8, 26, 31, 0, 0), (26, .aload_n 0, 27, 0, 0, 0), (27, .getfield 19, 30, 3, 2, 0), (30, .ireturn, 31, 0, 0, 0), (31, .iinc 1 1, 34, 0, 0, 0), (34, .goto (-28), 37, 6, 0, 0), (37, .bipush (-6), 39, 0, 0, 0), (39, .ireturn, 40, 0, 0, 0)]
def tb_Pad_faultPlace : List (Nat × EN) := tb_Pad_faultPlace_0
def tb_Pad_readAct_0 : List (Nat × EN) := [(0, .aload_n 0, 1, 0, 0, 0), (1, .bipush (-6), 3, 0, 0, 0), (3, .putfield 25, 6, 3, 4, 0), (6, .aload_n 0, 7, 0, 0, 0), (7, .iconst 0, 8, 0, 0, 0), (8, .putfield 28, 11, 3, 5, 0), (11, .aload_n 0, 12, 0, 0, 0), (12, .bipush 46, 14, 0, 0, 0), (14, .bipush 8, 16, 0, 0, 0), (16, .invokevirtual 41, 19, 41, 1, 0), (19, .ifCond .eq 5, 22, 24, 0, 0), (22, .iconst 1, 23, 0, 0, 0), (23, .ireturn, 24, 0, 0, 0), (24, .aload_n 0, 25, 0, 0, 0), (25, .bipush 112, 27, 0, 0, 0), (27, .iconst 4, 28, 0, 0, 0), (28, .invokevirtual 41, 31, 41, 1, 0), (31, .ifCond .eq 10, 34, 41, 0, 0), (34, .aload_n 0, 35, 0, 0, 0), (35, .iconst 0, 36, 0, 0, 0), (36, .iconst 4, 37, 0, 0, 0), (37, .invokevirtual 45, 40, 43, 1, 0), (40, .ireturn, 41, 0, 0, 0), (41, .aload_n 0, 42, 0, 0, 0), (42, .bipush 80, 44, 0, 0, 0), (44, .iconst 5, 45, 0, 0, 0), (45, .invokevirtual 41, 48, 41, 1, 0), (48, .ifCond .eq 8, 51, 56, 0, 0), (51, .aload_n 0, 52, 0, 0, 0), (52, .invokevirtual 48, 55, 42, 1, 0), (55, .ireturn, 56, 0, 0, 0), (56, .aload_n 0, 57, 0, 0, 0), (57, .bipush 115, 59, 0, 0, 0), (59, .bipush 6, 61, 0, 0, 0), (61, .invokevirtual 41, 64, 41, 1, 0), (64, .ifCond .eq 8, 67, 72, 0, 0), (67, .aload_n 0, 68, 0, 0, 0), (68, .invokevirtual 51, 71, 40, 1, 0), (71, .ireturn, 72, 0, 0, 0), (72, .aload_n 0, 73, 0, 0, 0), (73, .bipush 33, 75, 0, 0, 0), (75, .bipush 7, 77, 0, 0, 0), (77, .invokevirtual 41, 80, 41, 1, 0), (80, .ifCond .eq 25, 83, 105, 0, 0), (83, .aload_n 0, 84, 0, 0, 0), (84, .invokevirtual 48, 87, 42, 1, 0), (87, .ifCond .eq 16, 90, 103, 0, 0), (90, .aload_n 0, 91, 0, 0, 0), (91, .iconst 0, 92, 0, 0, 0), (92, .iconst 4, 93, 0, 0, 0), (93, .invokevirtual 45, 96, 43, 1, 0), (96, .ifCond .eq 7, 99, 103, 0, 0), (99, .iconst 1, 100, 0, 0, 0), (100, .goto 4, 103, 104, 0, 0), (103, .iconst 0, 104, 0, 0, 0), (104, .ireturn, 105, 0, 0, 0), (105, .aload_n 0, 106, 0, 0, 0), (106, .invokevirtual 48, 109, 42, 1, 0), (109, .ifCond .eq 14, 112, 123, 0, 0), (112, .aload_n 0, 113, 0, 0, 0)]
def tb_Pad_readAct_1 : List (Nat × EN) := [(113, .invokevirtual 54, 116, 39, 1, 0), (116, .ifCond .eq 7, 119, 123, 0, 0), (119, .iconst 1, 120, 0, 0, 0), (120, .goto 4, 123, 124, 0, 0), (123, .iconst 0, 124, 0, 0, 0), (124, .ireturn, 125, 0, 0, 0)]
def tb_Pad_readAct : List (Nat × EN) := tb_Pad_readAct_0 ++ tb_Pad_readAct_1
def tb_Pad_takesHandling_0 : List (Nat × EN) := [(0, .aload_n 0, 1, 0, 0, 0), (1, .bipush 40, 3, 0, 0, 0), (3, .iconst 0, 4, 0, 0, 0), (4, .invokevirtual 41, 7, 41, 1, 0), (7, .ifCond .ne 13, 10, 20, 0, 0), (10, .aload_n 0, 11, 0, 0, 0), (11, .bipush 41, 13, 0, 0, 0), (13, .iconst 1, 14, 0, 0, 0), (14, .invokevirtual 41, 17, 41, 1, 0), (17, .ifCond .eq 5, 20, 22, 0, 0), (20, .iconst 1, 21, 0, 0, 0), (21, .ireturn, 22, 0, 0, 0), (22, .aload_n 0, 23, 0, 0, 0), (23, .bipush 60, 25, 0, 0, 0), (25, .iconst 2, 26, 0, 0, 0), (26, .invokevirtual 41, 29, 41, 1, 0), (29, .ifCond .ne 13, 32, 42, 0, 0), (32, .aload_n 0, 33, 0, 0, 0), (33, .bipush 62, 35, 0, 0, 0), (35, .iconst 3, 36, 0, 0, 0), (36, .invokevirtual 41, 39, 41, 1, 0), (39, .ifCond .eq 17, 42, 56, 0, 0), (42, .aload_n 0, 43, 0, 0, 0), (43, .iconst 1, 44, 0, 0, 0), (44, .bipush 9, 46, 0, 0, 0), (46, .invokevirtual 45, 49, 43, 1, 0), (49, .ifCond .eq 7, 52, 56, 0, 0), (52, .iconst 1, 53, 0, 0, 0), (53, .goto 4, 56, 57, 0, 0), (56, .iconst 0, 57, 0, 0, 0), (57, .ireturn, 58, 0, 0, 0)]
def tb_Pad_takesHandling : List (Nat × EN) := tb_Pad_takesHandling_0
def tb_Pad_takesWay_0 : List (Nat × EN) := [(0, .aload_n 0, 1, 0, 0, 0), (1, .bipush 62, 3, 0, 0, 0), (3, .bipush 6, 5, 0, 0, 0), (5, .invokevirtual 41, 8, 41, 1, 0), (8, .ifCond .eq 11, 11, 19, 0, 0), (11, .aload_n 0, 12, 0, 0, 0), (12, .iconst 0, 13, 0, 0, 0), (13, .bipush 9, 15, 0, 0, 0), (15, .invokevirtual 45, 18, 43, 1, 0), (18, .ireturn, 19, 0, 0, 0), (19, .aload_n 0, 20, 0, 0, 0), (20, .bipush 60, 22, 0, 0, 0), (22, .bipush 6, 24, 0, 0, 0), (24, .invokevirtual 41, 27, 41, 1, 0), (27, .ifCond .eq 13, 30, 40, 0, 0), (30, .aload_n 0, 31, 0, 0, 0), (31, .iconst 0, 32, 0, 0, 0), (32, .bipush 9, 34, 0, 0, 0), (34, .invokevirtual 45, 37, 43, 1, 0), (37, .ifCond .ne 5, 40, 42, 0, 0), (40, .iconst 0, 41, 0, 0, 0), (41, .ireturn, 42, 0, 0, 0), (42, .aload_n 0, 43, 0, 0, 0), (43, .aload_n 0, 44, 0, 0, 0), (44, .getfield 28, 47, 3, 5, 0), (47, .ineg, 48, 0, 0, 0), (48, .putfield 28, 51, 3, 5, 0), (51, .iconst 1, 52, 0, 0, 0), (52, .ireturn, 53, 0, 0, 0)]
def tb_Pad_takesWay : List (Nat × EN) := tb_Pad_takesWay_0
def tb_Pad_takes_0 : List (Nat × EN) := [(0, .aload_n 0, 1, 0, 0, 0), (1, .invokevirtual 57, 4, 44, 1, 0), (4, .iload_n 1, 5, 0, 0, 0), (5, .if_icmp .eq 5, 8, 10, 0, 0), (8, .iconst 0, 9, 0, 0, 0), (9, .ireturn, 10, 0, 0, 0), (10, .aload_n 0, 11, 0, 0, 0), (11, .iload_n 2, 12, 0, 0, 0), (12, .putfield 22, 15, 3, 3, 0), (15, .aload_n 0, 16, 0, 0, 0), (16, .dup, 17, 0, 0, 0), (17, .getfield 19, 20, 3, 2, 0), (20, .iconst 1, 21, 0, 0, 0), (21, .iadd, 22, 0, 0, 0), (22, .putfield 19, 25, 3, 2, 0), (25, .iconst 1, 26, 0, 0, 0), (26, .ireturn, 27, 0, 0, 0)]
def tb_Pad_takes : List (Nat × EN) := tb_Pad_takes_0
def tb_Pad_takesRod_0 : List (Nat × EN) := [(0, .aload_n 0, 1, 0, 0, 0), (1, .invokevirtual 57, 4, 44, 1, 0), (4, .bipush 97, 6, 0, 0, 0), (6, .isub, 7, 0, 0, 0), (7, .istore_n 1, 8, 0, 0, 0), (8, .iload_n 1, 9, 0, 0, 0), (9, .invokestatic 61, 12, 52, 0, 0), (12, .ifCond .ne 5, 15, 17, 0, 0), (15, .iconst 0, 16, 0, 0, 0), (16, .ireturn, 17, 0, 0, 0), (17, .aload_n 0, 18, 0, 0, 0), (18, .iload_n 1, 19, 0, 0, 0), (19, .putfield 25, 22, 3, 4, 0), (22, .aload_n 0, 23, 0, 0, 0), (23, .dup, 24, 0, 0, 0), (24, .getfield 19, 27, 3, 2, 0), (27, .iconst 1, 28, 0, 0, 0), (28, .iadd, 29, 0, 0, 0), (29, .putfield 19, 32, 3, 2, 0), (32, .iconst 1, 33, 0, 0, 0), (33, .ireturn, 34, 0, 0, 0)]
def tb_Pad_takesRod : List (Nat × EN) := tb_Pad_takesRod_0
def tb_Pad_takesDigit_0 : List (Nat × EN) := [(0, .aload_n 0, 1, 0, 0, 0), (1, .invokevirtual 57, 4, 44, 1, 0), (4, .bipush 48, 6, 0, 0, 0), (6, .isub, 7, 0, 0, 0), (7, .istore_n 3, 8, 0, 0, 0), (8, .iload_n 3, 9, 0, 0, 0), (9, .iload_n 1, 10, 0, 0, 0), (10, .iload_n 2, 11, 0, 0, 0), (11, .invokestatic 67, 14, 140, 3, 0), (14, .ifCond .ne 5, 17, 19, 0, 0), (17, .iconst 0, 18, 0, 0, 0), (18, .ireturn, 19, 0, 0, 0), (19, .aload_n 0, 20, 0, 0, 0), (20, .iload_n 3, 21, 0, 0, 0), (21, .putfield 28, 24, 3, 5, 0), (24, .aload_n 0, 25, 0, 0, 0), (25, .dup, 26, 0, 0, 0), (26, .getfield 19, 29, 3, 2, 0), (29, .iconst 1, 30, 0, 0, 0), (30, .iadd, 31, 0, 0, 0), (31, .putfield 19, 34, 3, 2, 0), (34, .iconst 1, 35, 0, 0, 0), (35, .ireturn, 36, 0, 0, 0)]
def tb_Pad_takesDigit : List (Nat × EN) := tb_Pad_takesDigit_0
def tb_Pad_nextSign_0 : List (Nat × EN) := [(0, .aload_n 0, 1, 0, 0, 0), (1, .getfield 19, 4, 3, 2, 0), (4, .ifCond .lt 38, 7, 42, 0, 0), (7, .aload_n 0, 8, 0, 0, 0), (8, .getfield 19, 11, 3, 2, 0), (11, .aload_n 0, 12, 0, 0, 0), (12, .getfield 15, 15, 3, 1, 0), (15, .if_icmp .ge 27, 18, 42, 0, 0), (18, .aload_n 0, 19, 0, 0, 0), (19, .getfield 19, 22, 3, 2, 0), (22, .aload_n 0, 23, 0, 0, 0), (23, .getfield 9, 26, 3, 0, 2), (26, .arraylength, 27, 0, 0, 0), (27, .if_icmp .ge 15, 30, 42, 0, 0), (30, .aload_n 0, 31, 0, 0, 0), (31, .getfield 9, 34, 3, 0, 2), (34, .aload_n 0, 35, 0, 0, 0), (35, .getfield 19, 38, 3, 2, 0), (38, .iaload, 39, 0, 0, 0), (39, .goto 4, 42, 43, 0, 0), (42, .iconst 0, 43, 0, 0, 0), (43, .ireturn, 44, 0, 0, 0)]
def tb_Pad_nextSign : List (Nat × EN) := tb_Pad_nextSign_0
def tb_Passes_init_0 : List (Nat × EN) := [(0, .aload_n 0, 1, 0, 0, 0), (1, .invokespecial 3, 4, 0, 5, 0), (4, .aload_n 0, 5, 0, 0, 0), (5, .bipush 80, 7, 0, 0, 0), (7, .newarray .int, 9, 0, 0, 0), (9, .putfield 9, 12, 4, 0, 2), (12, .return_, 13, 0, 0, 0)]
def tb_Passes_init : List (Nat × EN) := tb_Passes_init_0
def tb_Passes_from_0 : List (Nat × EN) := [(0, .iload_n 1, 1, 0, 0, 0), (1, .ifCond .lt 21, 4, 22, 0, 0), (4, .iload_n 1, 5, 0, 0, 0), (5, .aload_n 0, 6, 0, 0, 0), (6, .getfield 9, 9, 4, 0, 2), (9, .arraylength, 10, 0, 0, 0), (10, .if_icmp .ge 12, 13, 22, 0, 0), (13, .aload_n 0, 14, 0, 0, 0), (14, .getfield 9, 17, 4, 0, 2), (17, .iload_n 1, 18, 0, 0, 0), (18, .iaload, 19, 0, 0, 0), (19, .goto 5, 22, 24, 0, 0), (22, .bipush (-6), 24, 0, 0, 0), (24, .ireturn, 25, 0, 0, 0)]
def tb_Passes_from : List (Nat × EN) := tb_Passes_from_0
def tb_Passes_countTo_0 : List (Nat × EN) := [(0, .iconst 0, 1, 0, 0, 0), (1, .istore_n 3, 2, 0, 0, 0), (2, .iload_n 3, 3, 0, 0, 0), (3, .aload_n 0, 4, 0, 0, 0), (4, .getfield 9, 7, 4, 0, 2), (7, .arraylength, 8, 0, 0, 0), (8, .if_icmp .ge 26, 11, 34, 0, 0), (11, .aload_n 0, 12, 0, 0, 0), (12, .getfield 9, 15, 4, 0, 2), (15, .iload_n 3, 16, 0, 0, 0), (16, .iload_n 3, 17, 0, 0, 0), (17, .iload_n 2, 18, 0, 0, 0), (18, .if_icmp .ne 7, 21, 25, 0, 0), (21, .iconst 0, 22, 0, 0, 0), (22, .goto 5, 25, 27, 0, 0), (25, .bipush (-6), 27, 0, 0, 0), (27, .iastore, 28, 0, 0, 0), (28, .iinc 3 1, 31, 0, 0, 0), (31, .goto (-29), 34, 2, 0, 0), (34, .iconst 1, 35, 0, 0, 0), (35, .istore_n 3, 36, 0, 0, 0), (36, .iload_n 3, 37, 0, 0, 0), (37, .bipush 11, 39, 0, 0, 0), (39, .if_icmp .ge 61, 42, 100, 0, 0), (42, .iconst 0, 43, 0, 0, 0), (43, .istore 4, 45, 0, 0, 0), (45, .iload 4, 47, 0, 0, 0), (47, .aload_n 0, 48, 0, 0, 0), (48, .getfield 9, 51, 4, 0, 2), (51, .arraylength, 52, 0, 0, 0), (52, .if_icmp .ge 42, 55, 94, 0, 0), (55, .aload_n 0, 56, 0, 0, 0), (56, .getfield 9, 59, 4, 0, 2), (59, .iload 4, 61, 0, 0, 0), (61, .iaload, 62, 0, 0, 0), (62, .bipush (-6), 64, 0, 0, 0), (64, .if_icmp .ne 24, 67, 88, 0, 0), (67, .aload_n 0, 68, 0, 0, 0), (68, .aload_n 1, 69, 0, 0, 0), (69, .iload 4, 71, 0, 0, 0), (71, .iload_n 3, 72, 0, 0, 0), (72, .iconst 1, 73, 0, 0, 0), (73, .isub, 74, 0, 0, 0), (74, .invokevirtual 15, 77, 48, 1, 0), (77, .ifCond .eq 11, 80, 88, 0, 0), (80, .aload_n 0, 81, 0, 0, 0), (81, .getfield 9, 84, 4, 0, 2), (84, .iload 4, 86, 0, 0, 0), (86, .iload_n 3, 87, 0, 0, 0), (87, .iastore, 88, 0, 0, 0), (88, .iinc 4 1, 91, 0, 0, 0), (91, .goto (-46), 94, 45, 0, 0), (94, .iinc 3 1, 97, 0, 0, 0), (97, .goto (-61), 100, 36, 0, 0), (100, .return_, 101, 0, 0, 0)]
def tb_Passes_countTo : List (Nat × EN) := tb_Passes_countTo_0
def tb_Passes_leads_0 : List (Nat × EN) := [(0, .iconst 0, 1, 0, 0, 0), (1, .istore 4, 3, 0, 0, 0), (3, .iload 4, 5, 0, 0, 0), (5, .bipush 10, 7, 0, 0, 0), (7, .if_icmp .ge 26, 10, 33, 0, 0), (10, .aload_n 0, 11, 0, 0, 0), (11, .aload_n 1, 12, 0, 0, 0), (12, .iload_n 2, 13, 0, 0, 0), (13, .iload 4, 15, 0, 0, 0), (15, .invokestatic 19, 18, 50, 0, 0), (18, .invokevirtual 23, 21, 46, 1, 0), (21, .iload_n 3, 22, 0, 0, 0), (22, .if_icmp .ne 5, 25, 27, 0, 0), (25, .iconst 1, 26, 0, 0, 0), (26, .ireturn, 27, 0, 0, 0), (27, .iinc 4 1, 30, 0, 0, 0), (30, .goto (-27), 33, 3, 0, 0), (33, .iconst 0, 34, 0, 0, 0), (34, .ireturn, 35, 0, 0, 0)]
def tb_Passes_leads : List (Nat × EN) := tb_Passes_leads_0
def tb_Passes_firstFrom_0 : List (Nat × EN) := [(0, .aload_n 0, 1, 0, 0, 0), (1, .iload_n 2, 2, 0, 0, 0), (2, .invokevirtual 23, 5, 46, 1, 0), (5, .iconst 1, 6, 0, 0, 0), (6, .isub, 7, 0, 0, 0), (7, .istore_n 3, 8, 0, 0, 0), (8, .iload_n 3, 9, 0, 0, 0), (9, .ifCond .ge 6, 12, 15, 0, 0), (12, .bipush (-6), 14, 0, 0, 0), (14, .ireturn, 15, 0, 0, 0), (15, .bipush (-6), 17, 0, 0, 0), (17, .istore 4, 19, 0, 0, 0), (19, .iconst 0, 20, 0, 0, 0), (20, .istore 5, 22, 0, 0, 0), (22, .iload 5, 24, 0, 0, 0), (24, .bipush 10, 26, 0, 0, 0), (26, .if_icmp .ge 46, 29, 72, 0, 0), (29, .aload_n 1, 30, 0, 0, 0), (30, .iload_n 2, 31, 0, 0, 0), (31, .iload 5, 33, 0, 0, 0), (33, .invokestatic 19, 36, 50, 0, 0), (36, .istore 6, 38, 0, 0, 0), (38, .aload_n 0, 39, 0, 0, 0), (39, .iload 6, 41, 0, 0, 0), (41, .invokevirtual 23, 44, 46, 1, 0), (44, .iload_n 3, 45, 0, 0, 0), (45, .if_icmp .ne 21, 48, 66, 0, 0), (48, .iload 4, 50, 0, 0, 0), (50, .bipush (-6), 52, 0, 0, 0), (52, .if_icmp .eq 10, 55, 62, 0, 0), (55, .iload 6, 57, 0, 0, 0), (57, .iload 4, 59, 0, 0, 0), (59, .if_icmp .ge 7, 62, 66, 0, 0), (62, .iload 6, 64, 0, 0, 0), (64, .istore 4, 66, 0, 0, 0), (66, .iinc 5 1, 69, 0, 0, 0), (69, .goto (-47), 72, 22, 0, 0), (72, .iload 4, 74, 0, 0, 0), (74, .ireturn, 75, 0, 0, 0)]
def tb_Passes_firstFrom : List (Nat × EN) := tb_Passes_firstFrom_0
def tb_Passes_receiver_0 : List (Nat × EN) := [(0, .iload_n 1, 1, 0, 0, 0), (1, .bipush 10, 3, 0, 0, 0), (3, .idiv, 4, 0, 0, 0), (4, .istore_n 3, 5, 0, 0, 0), (5, .iload_n 1, 6, 0, 0, 0), (6, .bipush 10, 8, 0, 0, 0), (8, .irem, 9, 0, 0, 0), (9, .istore 4, 11, 0, 0, 0), (11, .aload_n 0, 12, 0, 0, 0), (12, .ifnull 12, 15, 24, 0, 0), (15, .iload_n 3, 16, 0, 0, 0), (16, .iload 4, 18, 0, 0, 0), (18, .invokestatic 27, 21, 53, 0, 0), (21, .ifCond .ne 5, 24, 26, 0, 0), (24, .iconst (-1), 25, 0, 0, 0), (25, .ireturn, 26, 0, 0, 0), (26, .iload_n 2, 27, 0, 0, 0), (27, .iconst 2, 28, 0, 0, 0), (28, .if_icmp .lt 18, 31, 46, 0, 0), (31, .iload_n 3, 32, 0, 0, 0), (32, .aload_n 0, 33, 0, 0, 0), (33, .iload_n 3, 34, 0, 0, 0), (34, .iload 4, 36, 0, 0, 0), (36, .iload_n 2, 37, 0, 0, 0), (37, .iconst 2, 38, 0, 0, 0), (38, .isub, 39, 0, 0, 0), (39, .invokevirtual 33, 42, 95, 1, 0), (42, .invokestatic 39, 45, 51, 0, 0), (45, .ireturn, 46, 0, 0, 0), (46, .iload_n 2, 47, 0, 0, 0), (47, .ifCond .ne 10, 50, 57, 0, 0), (50, .iload 4, 52, 0, 0, 0), (52, .iconst 1, 53, 0, 0, 0), (53, .isub, 54, 0, 0, 0), (54, .goto 7, 57, 61, 0, 0), (57, .iload 4, 59, 0, 0, 0), (59, .iconst 1, 60, 0, 0, 0), (60, .iadd, 61, 0, 0, 0), (61, .istore 5, 63, 0, 0, 0), (63, .iload_n 3, 64, 0, 0, 0), (64, .iload 5, 66, 0, 0, 0), (66, .invokestatic 27, 69, 53, 0, 0), (69, .ifCond .eq 13, 72, 82, 0, 0), (72, .bipush 10, 74, 0, 0, 0), (74, .iload_n 3, 75, 0, 0, 0), (75, .imul, 76, 0, 0, 0), (76, .iload 5, 78, 0, 0, 0), (78, .iadd, 79, 0, 0, 0), (79, .goto 4, 82, 83, 0, 0), (82, .iconst (-1), 83, 0, 0, 0), (83, .ireturn, 84, 0, 0, 0)]
def tb_Passes_receiver : List (Nat × EN) := tb_Passes_receiver_0
def tb_Passes_ownOnly_0 : List (Nat × EN) := [(0, .iload_n 1, 1, 0, 0, 0), (1, .ifCond .lt 21, 4, 22, 0, 0), (4, .iload_n 1, 5, 0, 0, 0), (5, .bipush 10, 7, 0, 0, 0), (7, .idiv, 8, 0, 0, 0), (8, .invokestatic 43, 11, 54, 0, 0), (11, .iload_n 0, 12, 0, 0, 0), (12, .invokestatic 43, 15, 54, 0, 0), (15, .if_icmp .ne 7, 18, 22, 0, 0), (18, .iload_n 1, 19, 0, 0, 0), (19, .goto 4, 22, 23, 0, 0), (22, .iconst (-1), 23, 0, 0, 0), (23, .ireturn, 24, 0, 0, 0)]
def tb_Passes_ownOnly : List (Nat × EN) := tb_Passes_ownOnly_0
def tb_Rods_isRod_0 : List (Nat × EN) := [(0, .iload_n 0, 1, 0, 0, 0), (1, .ifCond .lt 13, 4, 14, 0, 0), (4, .iload_n 0, 5, 0, 0, 0), (5, .bipush 8, 7, 0, 0, 0), (7, .if_icmp .ge 7, 10, 14, 0, 0), (10, .iconst 1, 11, 0, 0, 0), (11, .goto 4, 14, 15, 0, 0), (14, .iconst 0, 15, 0, 0, 0), (15, .ireturn, 16, 0, 0, 0)]
def tb_Rods_isRod : List (Nat × EN) := tb_Rods_isRod_0
def tb_Rods_isMan_0 : List (Nat × EN) := [(0, .iload_n 1, 1, 0, 0, 0), (1, .ifCond .lt 15, 4, 16, 0, 0), (4, .iload_n 1, 5, 0, 0, 0), (5, .iload_n 0, 6, 0, 0, 0), (6, .invokestatic 9, 9, 55, 0, 0), (9, .if_icmp .ge 7, 12, 16, 0, 0), (12, .iconst 1, 13, 0, 0, 0), (13, .goto 4, 16, 17, 0, 0), (16, .iconst 0, 17, 0, 0, 0), (17, .ireturn, 18, 0, 0, 0)]
def tb_Rods_isMan : List (Nat × EN) := tb_Rods_isMan_0
def tb_Rods_sideOf_0 : List (Nat × EN) := [(0, .iload_n 0, 1, 0, 0, 0), (1, .ifCond .lt 19, 4, 20, 0, 0), (4, .iload_n 0, 5, 0, 0, 0), (5, .getstatic 15, 8, 0, 0, 0), (8, .arraylength, 9, 0, 0, 0), (9, .if_icmp .ge 11, 12, 20, 0, 0), (12, .getstatic 15, 15, 0, 0, 0), (15, .iload_n 0, 16, 0, 0, 0), (16, .iaload, 17, 0, 0, 0), (17, .goto 5, 20, 22, 0, 0), (20, .bipush (-6), 22, 0, 0, 0), (22, .ireturn, 23, 0, 0, 0)]
def tb_Rods_sideOf : List (Nat × EN) := tb_Rods_sideOf_0
def tb_Rods_menOf_0 : List (Nat × EN) := [(0, .iload_n 0, 1, 0, 0, 0), (1, .ifCond .lt 19, 4, 20, 0, 0), (4, .iload_n 0, 5, 0, 0, 0), (5, .getstatic 19, 8, 1, 0, 0), (8, .arraylength, 9, 0, 0, 0), (9, .if_icmp .ge 11, 12, 20, 0, 0), (12, .getstatic 19, 15, 1, 0, 0), (15, .iload_n 0, 16, 0, 0, 0), (16, .iaload, 17, 0, 0, 0), (17, .goto 4, 20, 21, 0, 0), (20, .iconst 0, 21, 0, 0, 0), (21, .ireturn, 22, 0, 0, 0)]
def tb_Rods_menOf : List (Nat × EN) := tb_Rods_menOf_0
def tb_Rods_gapOf_0 : List (Nat × EN) := [(0, .iload_n 0, 1, 0, 0, 0), (1, .ifCond .lt 19, 4, 20, 0, 0), (4, .iload_n 0, 5, 0, 0, 0), (5, .getstatic 22, 8, 2, 0, 0), (8, .arraylength, 9, 0, 0, 0), (9, .if_icmp .ge 11, 12, 20, 0, 0), (12, .getstatic 22, 15, 2, 0, 0), (15, .iload_n 0, 16, 0, 0, 0), (16, .iaload, 17, 0, 0, 0), (17, .goto 4, 20, 21, 0, 0), (20, .iconst 0, 21, 0, 0, 0), (21, .ireturn, 22, 0, 0, 0)]
def tb_Rods_gapOf : List (Nat × EN) := tb_Rods_gapOf_0
def tb_Rods_lastSlide_0 : List (Nat × EN) := [(0, .bipush 40, 2, 0, 0, 0), (2, .iload_n 0, 3, 0, 0, 0), (3, .invokestatic 9, 6, 55, 0, 0), (6, .iconst 1, 7, 0, 0, 0), (7, .isub, 8, 0, 0, 0), (8, .iload_n 0, 9, 0, 0, 0), (9, .invokestatic 25, 12, 56, 0, 0), (12, .imul, 13, 0, 0, 0), (13, .isub, 14, 0, 0, 0), (14, .ireturn, 15, 0, 0, 0)]
def tb_Rods_lastSlide : List (Nat × EN) := tb_Rods_lastSlide_0
def tb_Rods_isOf_0 : List (Nat × EN) := [(0, .iload_n 0, 1, 0, 0, 0), (1, .invokestatic 28, 4, 52, 0, 0), (4, .ifCond .eq 15, 7, 19, 0, 0), (7, .iload_n 0, 8, 0, 0, 0), (8, .invokestatic 32, 11, 54, 0, 0), (11, .iload_n 1, 12, 0, 0, 0), (12, .if_icmp .ne 7, 15, 19, 0, 0), (15, .iconst 1, 16, 0, 0, 0), (16, .goto 4, 19, 20, 0, 0), (19, .iconst 0, 20, 0, 0, 0), (20, .ireturn, 21, 0, 0, 0)]
def tb_Rods_isOf : List (Nat × EN) := tb_Rods_isOf_0
def tb_Rods_keeperOf_0 : List (Nat × EN) := [(0, .iload_n 0, 1, 0, 0, 0), (1, .ifCond .ne 7, 4, 8, 0, 0), (4, .iconst 0, 5, 0, 0, 0), (5, .goto 5, 8, 10, 0, 0), (8, .bipush 7, 10, 0, 0, 0), (10, .ireturn, 11, 0, 0, 0)]
def tb_Rods_keeperOf : List (Nat × EN) := tb_Rods_keeperOf_0
def tb_Rods_backsOf_0 : List (Nat × EN) := [(0, .iload_n 0, 1, 0, 0, 0), (1, .ifCond .ne 7, 4, 8, 0, 0), (4, .iconst 1, 5, 0, 0, 0), (5, .goto 5, 8, 10, 0, 0), (8, .bipush 6, 10, 0, 0, 0), (10, .ireturn, 11, 0, 0, 0)]
def tb_Rods_backsOf : List (Nat × EN) := tb_Rods_backsOf_0
def tb_Rods_stepToGoalOf_0 : List (Nat × EN) := [(0, .iload_n 0, 1, 0, 0, 0), (1, .ifCond .ne 7, 4, 8, 0, 0), (4, .iconst 1, 5, 0, 0, 0), (5, .goto 4, 8, 9, 0, 0), (8, .iconst (-1), 9, 0, 0, 0), (9, .ireturn, 10, 0, 0, 0)]
def tb_Rods_stepToGoalOf : List (Nat × EN) := tb_Rods_stepToGoalOf_0
def tb_Sights_init_0 : List (Nat × EN) := [(0, .aload_n 0, 1, 0, 0, 0), (1, .invokespecial 3, 4, 0, 5, 0), (4, .aload_n 0, 5, 0, 0, 0), (5, .bipush 8, 7, 0, 0, 0), (7, .newarray .int, 9, 0, 0, 0), (9, .putfield 9, 12, 5, 0, 2), (12, .aload_n 0, 13, 0, 0, 0), (13, .bipush 8, 15, 0, 0, 0), (15, .newarray .int, 17, 0, 0, 0), (17, .putfield 15, 20, 5, 1, 2), (20, .aload_n 0, 21, 0, 0, 0), (21, .bipush 30, 23, 0, 0, 0), (23, .newarray .int, 25, 0, 0, 0), (25, .putfield 18, 28, 5, 2, 2), (28, .return_, 29, 0, 0, 0)]
def tb_Sights_init : List (Nat × EN) := tb_Sights_init_0
def tb_Sights_size_0 : List (Nat × EN) := [(0, .aload_n 0, 1, 0, 0, 0), (1, .getfield 21, 4, 5, 3, 0), (4, .ireturn, 5, 0, 0, 0)]
def tb_Sights_size : List (Nat × EN) := tb_Sights_size_0
def tb_Sights_add_0 : List (Nat × EN) := [(0, .aload_n 0, 1, 0, 0, 0), (1, .getfield 21, 4, 5, 3, 0), (4, .ifCond .lt 27, 7, 31, 0, 0), (7, .aload_n 0, 8, 0, 0, 0), (8, .getfield 21, 11, 5, 3, 0), (11, .aload_n 0, 12, 0, 0, 0), (12, .getfield 9, 15, 5, 0, 2), (15, .arraylength, 16, 0, 0, 0), (16, .if_icmp .ge 15, 19, 31, 0, 0), (19, .aload_n 0, 20, 0, 0, 0), (20, .getfield 21, 23, 5, 3, 0), (23, .aload_n 0, 24, 0, 0, 0), (24, .getfield 15, 27, 5, 1, 2), (27, .arraylength, 28, 0, 0, 0), (28, .if_icmp .lt 5, 31, 33, 0, 0), (31, .iconst 0, 32, 0, 0, 0), (32, .ireturn, 33, 0, 0, 0), (33, .aload_n 0, 34, 0, 0, 0), (34, .getfield 9, 37, 5, 0, 2), (37, .aload_n 0, 38, 0, 0, 0), (38, .getfield 21, 41, 5, 3, 0), (41, .iload_n 1, 42, 0, 0, 0), (42, .iastore, 43, 0, 0, 0), (43, .aload_n 0, 44, 0, 0, 0), (44, .getfield 15, 47, 5, 1, 2), (47, .aload_n 0, 48, 0, 0, 0), (48, .getfield 21, 51, 5, 3, 0), (51, .iload_n 2, 52, 0, 0, 0), (52, .ifCond .eq 7, 55, 59, 0, 0), (55, .iconst 1, 56, 0, 0, 0), (56, .goto 4, 59, 60, 0, 0), (59, .iconst 0, 60, 0, 0, 0), (60, .iastore, 61, 0, 0, 0), (61, .aload_n 0, 62, 0, 0, 0), (62, .dup, 63, 0, 0, 0), (63, .getfield 21, 66, 5, 3, 0), (66, .iconst 1, 67, 0, 0, 0), (67, .iadd, 68, 0, 0, 0), (68, .putfield 21, 71, 5, 3, 0), (71, .iconst 1, 72, 0, 0, 0), (72, .ireturn, 73, 0, 0, 0)]
def tb_Sights_add : List (Nat × EN) := tb_Sights_add_0
def tb_Sights_clear_0 : List (Nat × EN) := [(0, .aload_n 0, 1, 0, 0, 0), (1, .iconst 0, 2, 0, 0, 0), (2, .putfield 21, 5, 5, 3, 0), (5, .return_, 6, 0, 0, 0)]
def tb_Sights_clear : List (Nat × EN) := tb_Sights_clear_0
def tb_Sights_copyFrom_0 : List (Nat × EN) := [(0, .aload_n 1, 1, 0, 0, 0), (1, .ifnonnull 4, 4, 5, 0, 0), (4, .return_, 5, 0, 0, 0), (5, .aload_n 0, 6, 0, 0, 0), (6, .aload_n 1, 7, 0, 0, 0), (7, .getfield 21, 10, 5, 3, 0), (10, .putfield 21, 13, 5, 3, 0), (13, .aload_n 1, 14, 0, 0, 0), (14, .getfield 9, 17, 5, 0, 2), (17, .aload_n 0, 18, 0, 0, 0), (18, .getfield 9, 21, 5, 0, 2), (21, .invokestatic 25, 24, 144, 3, 0), (24, .aload_n 1, 25, 0, 0, 0), (25, .getfield 15, 28, 5, 1, 2), (28, .aload_n 0, 29, 0, 0, 0), (29, .getfield 15, 32, 5, 1, 2), (32, .invokestatic 25, 35, 144, 3, 0), (35, .return_, 36, 0, 0, 0)]
def tb_Sights_copyFrom : List (Nat × EN) := tb_Sights_copyFrom_0
def tb_Sights_findRows_0 : List (Nat × EN) := [(0, .aload_n 0, 1, 0, 0, 0), (1, .iconst 0, 2, 0, 0, 0), (2, .putfield 29, 5, 5, 4, 0), (5, .bipush 16, 7, 0, 0, 0), (7, .istore_n 1, 8, 0, 0, 0), (8, .iload_n 1, 9, 0, 0, 0), (9, .bipush 79, 11, 0, 0, 0), (11, .if_icmp .gt 63, 14, 74, 0, 0), (14, .iload_n 1, 15, 0, 0, 0), (15, .invokestatic 32, 18, 71, 0, 0), (18, .ifCond .eq 50, 21, 68, 0, 0), (21, .aload_n 0, 22, 0, 0, 0), (22, .iload_n 1, 23, 0, 0, 0), (23, .invokevirtual 36, 26, 72, 1, 0), (26, .ifCond .eq 42, 29, 68, 0, 0), (29, .aload_n 0, 30, 0, 0, 0), (30, .getfield 29, 33, 5, 4, 0), (33, .ifCond .lt 35, 36, 68, 0, 0), (36, .aload_n 0, 37, 0, 0, 0), (37, .getfield 29, 40, 5, 4, 0), (40, .aload_n 0, 41, 0, 0, 0), (41, .getfield 18, 44, 5, 2, 2), (44, .arraylength, 45, 0, 0, 0), (45, .if_icmp .ge 23, 48, 68, 0, 0), (48, .aload_n 0, 49, 0, 0, 0), (49, .getfield 18, 52, 5, 2, 2), (52, .aload_n 0, 53, 0, 0, 0), (53, .getfield 29, 56, 5, 4, 0), (56, .iload_n 1, 57, 0, 0, 0), (57, .iastore, 58, 0, 0, 0), (58, .aload_n 0, 59, 0, 0, 0), (59, .dup, 60, 0, 0, 0), (60, .getfield 29, 63, 5, 4, 0), (63, .iconst 1, 64, 0, 0, 0), (64, .iadd, 65, 0, 0, 0), (65, .putfield 29, 68, 5, 4, 0), (68, .iinc 1 1, 71, 0, 0, 0), (71, .goto (-63), 74, 8, 0, 0), (74, .aload_n 0, 75, 0, 0, 0), (75, .getfield 29, 78, 5, 4, 0), (78, .ireturn, 79, 0, 0, 0)]
def tb_Sights_findRows : List (Nat × EN) := tb_Sights_findRows_0
def tb_Sights_rowFound_0 : List (Nat × EN) := [(0, .iload_n 1, 1, 0, 0, 0), (1, .ifCond .lt 29, 4, 30, 0, 0), (4, .iload_n 1, 5, 0, 0, 0), (5, .aload_n 0, 6, 0, 0, 0), (6, .getfield 29, 9, 5, 4, 0), (9, .if_icmp .ge 21, 12, 30, 0, 0), (12, .iload_n 1, 13, 0, 0, 0), (13, .aload_n 0, 14, 0, 0, 0), (14, .getfield 18, 17, 5, 2, 2), (17, .arraylength, 18, 0, 0, 0), (18, .if_icmp .ge 12, 21, 30, 0, 0), (21, .aload_n 0, 22, 0, 0, 0), (22, .getfield 18, 25, 5, 2, 2), (25, .iload_n 1, 26, 0, 0, 0), (26, .iaload, 27, 0, 0, 0), (27, .goto 5, 30, 32, 0, 0), (30, .bipush (-6), 32, 0, 0, 0), (32, .ireturn, 33, 0, 0, 0)]
def tb_Sights_rowFound : List (Nat × EN) := tb_Sights_rowFound_0
def tb_Sights_bestShot_0 : List (Nat × EN) := [(0, .iconst 0, 1, 0, 0, 0), (1, .istore_n 1, 2, 0, 0, 0), (2, .iconst 1, 3, 0, 0, 0), (3, .istore_n 2, 4, 0, 0, 0), (4, .iload_n 2, 5, 0, 0, 0), (5, .bipush 60, 7, 0, 0, 0), (7, .if_icmp .gt 24, 10, 31, 0, 0), (10, .aload_n 0, 11, 0, 0, 0), (11, .iload_n 2, 12, 0, 0, 0), (12, .invokevirtual 39, 15, 70, 1, 0), (15, .aload_n 0, 16, 0, 0, 0), (16, .iload_n 1, 17, 0, 0, 0), (17, .invokevirtual 39, 20, 70, 1, 0), (20, .if_icmp .ge 5, 23, 25, 0, 0), (23, .iload_n 2, 24, 0, 0, 0), (24, .istore_n 1, 25, 0, 0, 0), (25, .iinc 2 1, 28, 0, 0, 0), (28, .goto (-24), 31, 4, 0, 0), (31, .iload_n 1, 32, 0, 0, 0), (32, .ireturn, 33, 0, 0, 0)]
def tb_Sights_bestShot : List (Nat × EN) := tb_Sights_bestShot_0
def tb_Sights_mostLeft_0 : List (Nat × EN) := [(0, .iconst 0, 1, 0, 0, 0), (1, .istore_n 2, 2, 0, 0, 0), (2, .iconst 0, 3, 0, 0, 0), (3, .istore_n 3, 4, 0, 0, 0), (4, .iload_n 3, 5, 0, 0, 0), (5, .aload_n 0, 6, 0, 0, 0), (6, .getfield 29, 9, 5, 4, 0), (9, .if_icmp .ge 31, 12, 40, 0, 0), (12, .iload_n 3, 13, 0, 0, 0), (13, .aload_n 0, 14, 0, 0, 0), (14, .getfield 18, 17, 5, 2, 2), (17, .arraylength, 18, 0, 0, 0), (18, .if_icmp .ge 22, 21, 40, 0, 0), (21, .iload_n 2, 22, 0, 0, 0), (22, .aload_n 0, 23, 0, 0, 0), (23, .getfield 18, 26, 5, 2, 2), (26, .iload_n 3, 27, 0, 0, 0), (27, .iaload, 28, 0, 0, 0), (28, .iload_n 1, 29, 0, 0, 0), (29, .invokestatic 43, 32, 73, 0, 0), (32, .iadd, 33, 0, 0, 0), (33, .istore_n 2, 34, 0, 0, 0), (34, .iinc 3 1, 37, 0, 0, 0), (37, .goto (-33), 40, 4, 0, 0), (40, .iload_n 2, 41, 0, 0, 0), (41, .aload_n 0, 42, 0, 0, 0), (42, .getfield 29, 45, 5, 4, 0), (45, .iload_n 2, 46, 0, 0, 0), (46, .isub, 47, 0, 0, 0), (47, .invokestatic 47, 50, 213, 0, 0), (50, .ireturn, 51, 0, 0, 0)]
def tb_Sights_mostLeft : List (Nat × EN) := tb_Sights_mostLeft_0
def tb_Sights_isRow_0 : List (Nat × EN) := [(0, .iload_n 0, 1, 0, 0, 0), (1, .bipush 16, 3, 0, 0, 0), (3, .irem, 4, 0, 0, 0), (4, .iconst 1, 5, 0, 0, 0), (5, .iload_n 0, 6, 0, 0, 0), (6, .bipush 16, 8, 0, 0, 0), (8, .idiv, 9, 0, 0, 0), (9, .ishl, 10, 0, 0, 0), (10, .if_icmp .ge 7, 13, 17, 0, 0), (13, .iconst 1, 14, 0, 0, 0), (14, .goto 4, 17, 18, 0, 0), (17, .iconst 0, 18, 0, 0, 0), (18, .ireturn, 19, 0, 0, 0)]
def tb_Sights_isRow : List (Nat × EN) := tb_Sights_isRow_0
def tb_Sights_fitsAll_0 : List (Nat × EN) := [(0, .iconst 0, 1, 0, 0, 0), (1, .istore_n 2, 2, 0, 0, 0), (2, .iload_n 2, 3, 0, 0, 0), (3, .aload_n 0, 4, 0, 0, 0), (4, .getfield 21, 7, 5, 3, 0), (7, .if_icmp .ge 48, 10, 55, 0, 0), (10, .iload_n 2, 11, 0, 0, 0), (11, .aload_n 0, 12, 0, 0, 0), (12, .getfield 9, 15, 5, 0, 2), (15, .arraylength, 16, 0, 0, 0), (16, .if_icmp .ge 39, 19, 55, 0, 0), (19, .iload_n 2, 20, 0, 0, 0), (20, .aload_n 0, 21, 0, 0, 0), (21, .getfield 15, 24, 5, 1, 2), (24, .arraylength, 25, 0, 0, 0), (25, .if_icmp .ge 30, 28, 55, 0, 0), (28, .iload_n 1, 29, 0, 0, 0), (29, .aload_n 0, 30, 0, 0, 0), (30, .getfield 9, 33, 5, 0, 2), (33, .iload_n 2, 34, 0, 0, 0), (34, .iaload, 35, 0, 0, 0), (35, .invokestatic 43, 38, 73, 0, 0), (38, .aload_n 0, 39, 0, 0, 0), (39, .getfield 15, 42, 5, 1, 2), (42, .iload_n 2, 43, 0, 0, 0), (43, .iaload, 44, 0, 0, 0), (44, .if_icmp .eq 5, 47, 49, 0, 0), (47, .iconst 0, 48, 0, 0, 0), (48, .ireturn, 49, 0, 0, 0), (49, .iinc 2 1, 52, 0, 0, 0), (52, .goto (-50), 55, 2, 0, 0), (55, .iconst 1, 56, 0, 0, 0), (56, .ireturn, 57, 0, 0, 0)]
def tb_Sights_fitsAll : List (Nat × EN) := tb_Sights_fitsAll_0
def tb_Sights_sideBy_0 : List (Nat × EN) := [(0, .iload_n 0, 1, 0, 0, 0), (1, .bipush 16, 3, 0, 0, 0), (3, .idiv, 4, 0, 0, 0), (4, .istore_n 2, 5, 0, 0, 0), (5, .iload_n 2, 6, 0, 0, 0), (6, .iconst 1, 7, 0, 0, 0), (7, .if_icmp .ge 5, 10, 12, 0, 0), (10, .iconst 0, 11, 0, 0, 0), (11, .ireturn, 12, 0, 0, 0), (12, .iload_n 0, 13, 0, 0, 0), (13, .iload_n 1, 14, 0, 0, 0), (14, .iload_n 2, 15, 0, 0, 0), (15, .irem, 16, 0, 0, 0), (16, .ishr, 17, 0, 0, 0), (17, .iconst 1, 18, 0, 0, 0), (18, .iand, 19, 0, 0, 0), (19, .ireturn, 20, 0, 0, 0)]
def tb_Sights_sideBy : List (Nat × EN) := tb_Sights_sideBy_0
def tb_Table_init_0 : List (Nat × EN) := [(0, .aload_n 0, 1, 0, 0, 0), (1, .invokespecial 3, 4, 0, 5, 0), (4, .aload_n 0, 5, 0, 0, 0), (5, .bipush 8, 7, 0, 0, 0), (7, .newarray .int, 9, 0, 0, 0), (9, .putfield 9, 12, 6, 0, 2), (12, .aload_n 0, 13, 0, 0, 0), (13, .iconst 2, 14, 0, 0, 0), (14, .newarray .int, 16, 0, 0, 0), (16, .putfield 15, 19, 6, 1, 2), (19, .iconst 0, 20, 0, 0, 0), (20, .istore_n 1, 21, 0, 0, 0), (21, .iload_n 1, 22, 0, 0, 0), (22, .aload_n 0, 23, 0, 0, 0), (23, .getfield 9, 26, 6, 0, 2), (26, .arraylength, 27, 0, 0, 0), (27, .if_icmp .ge 21, 30, 48, 0, 0), (30, .aload_n 0, 31, 0, 0, 0), (31, .getfield 9, 34, 6, 0, 2), (34, .iload_n 1, 35, 0, 0, 0), (35, .iload_n 1, 36, 0, 0, 0), (36, .invokestatic 18, 39, 57, 0, 0), (39, .iconst 2, 40, 0, 0, 0), (40, .idiv, 41, 0, 0, 0), (41, .iastore, 42, 0, 0, 0), (42, .iinc 1 1, 45, 0, 0, 0), (45, .goto (-24), 48, 21, 0, 0), (48, .aload_n 0, 49, 0, 0, 0), (49, .bipush (-6), 51, 0, 0, 0), (51, .putfield 24, 54, 6, 3, 0), (54, .aload_n 0, 55, 0, 0, 0), (55, .bipush (-6), 57, 0, 0, 0), (57, .putfield 28, 60, 6, 4, 0), (60, .return_, 61, 0, 0, 0)]
def tb_Table_init : List (Nat × EN) := tb_Table_init_0
def tb_Table_copyFrom_0 : List (Nat × EN) := [(0, .aload_n 1, 1, 0, 0, 0), (1, .ifnonnull 4, 4, 5, 0, 0), (4, .return_, 5, 0, 0, 0), (5, .aload_n 1, 6, 0, 0, 0), (6, .getfield 9, 9, 6, 0, 2), (9, .aload_n 0, 10, 0, 0, 0), (10, .getfield 9, 13, 6, 0, 2), (13, .invokestatic 31, 16, 144, 3, 0), (16, .aload_n 1, 17, 0, 0, 0), (17, .getfield 15, 20, 6, 1, 2), (20, .aload_n 0, 21, 0, 0, 0), (21, .getfield 15, 24, 6, 1, 2), (24, .invokestatic 31, 27, 144, 3, 0), (27, .aload_n 0, 28, 0, 0, 0), (28, .aload_n 1, 29, 0, 0, 0), (29, .getfield 35, 32, 6, 2, 0), (32, .putfield 35, 35, 6, 2, 0), (35, .aload_n 0, 36, 0, 0, 0), (36, .aload_n 1, 37, 0, 0, 0), (37, .getfield 24, 40, 6, 3, 0), (40, .putfield 24, 43, 6, 3, 0), (43, .aload_n 0, 44, 0, 0, 0), (44, .aload_n 1, 45, 0, 0, 0), (45, .getfield 28, 48, 6, 4, 0), (48, .putfield 28, 51, 6, 4, 0), (51, .aload_n 0, 52, 0, 0, 0), (52, .aload_n 1, 53, 0, 0, 0), (53, .getfield 38, 56, 6, 5, 0), (56, .putfield 38, 59, 6, 5, 0), (59, .return_, 60, 0, 0, 0)]
def tb_Table_copyFrom : List (Nat × EN) := tb_Table_copyFrom_0
def tb_Table_slideOf_0 : List (Nat × EN) := [(0, .iload_n 1, 1, 0, 0, 0), (1, .ifCond .lt 21, 4, 22, 0, 0), (4, .iload_n 1, 5, 0, 0, 0), (5, .aload_n 0, 6, 0, 0, 0), (6, .getfield 9, 9, 6, 0, 2), (9, .arraylength, 10, 0, 0, 0), (10, .if_icmp .ge 12, 13, 22, 0, 0), (13, .aload_n 0, 14, 0, 0, 0), (14, .getfield 9, 17, 6, 0, 2), (17, .iload_n 1, 18, 0, 0, 0), (18, .iaload, 19, 0, 0, 0), (19, .goto 5, 22, 24, 0, 0), (22, .bipush (-6), 24, 0, 0, 0), (24, .ireturn, 25, 0, 0, 0)]
def tb_Table_slideOf : List (Nat × EN) := tb_Table_slideOf_0
def tb_Table_slideTo_0 : List (Nat × EN) := [(0, .iload_n 1, 1, 0, 0, 0), (1, .ifCond .lt 19, 4, 20, 0, 0), (4, .iload_n 1, 5, 0, 0, 0), (5, .aload_n 0, 6, 0, 0, 0), (6, .getfield 9, 9, 6, 0, 2), (9, .arraylength, 10, 0, 0, 0), (10, .if_icmp .ge 10, 13, 20, 0, 0), (13, .aload_n 0, 14, 0, 0, 0), (14, .getfield 9, 17, 6, 0, 2), (17, .iload_n 1, 18, 0, 0, 0), (18, .iload_n 2, 19, 0, 0, 0), (19, .iastore, 20, 0, 0, 0), (20, .return_, 21, 0, 0, 0)]
def tb_Table_slideTo : List (Nat × EN) := tb_Table_slideTo_0
def tb_Table_scoredBy_0 : List (Nat × EN) := [(0, .iload_n 1, 1, 0, 0, 0), (1, .ifCond .lt 21, 4, 22, 0, 0), (4, .iload_n 1, 5, 0, 0, 0), (5, .aload_n 0, 6, 0, 0, 0), (6, .getfield 15, 9, 6, 1, 2), (9, .arraylength, 10, 0, 0, 0), (10, .if_icmp .ge 12, 13, 22, 0, 0), (13, .aload_n 0, 14, 0, 0, 0), (14, .getfield 15, 17, 6, 1, 2), (17, .iload_n 1, 18, 0, 0, 0), (18, .iaload, 19, 0, 0, 0), (19, .goto 5, 22, 24, 0, 0), (22, .bipush (-6), 24, 0, 0, 0), (24, .ireturn, 25, 0, 0, 0)]
def tb_Table_scoredBy : List (Nat × EN) := tb_Table_scoredBy_0
def tb_Table_setScored_0 : List (Nat × EN) := [(0, .iload_n 1, 1, 0, 0, 0), (1, .ifCond .lt 19, 4, 20, 0, 0), (4, .iload_n 1, 5, 0, 0, 0), (5, .aload_n 0, 6, 0, 0, 0), (6, .getfield 15, 9, 6, 1, 2), (9, .arraylength, 10, 0, 0, 0), (10, .if_icmp .ge 10, 13, 20, 0, 0), (13, .aload_n 0, 14, 0, 0, 0), (14, .getfield 15, 17, 6, 1, 2), (17, .iload_n 1, 18, 0, 0, 0), (18, .iload_n 2, 19, 0, 0, 0), (19, .iastore, 20, 0, 0, 0), (20, .return_, 21, 0, 0, 0)]
def tb_Table_setScored : List (Nat × EN) := tb_Table_setScored_0
def tb_Table_scoredInAll_0 : List (Nat × EN) := [(0, .aload_n 0, 1, 0, 0, 0), (1, .iconst 0, 2, 0, 0, 0), (2, .invokevirtual 41, 5, 78, 1, 0), (5, .aload_n 0, 6, 0, 0, 0), (6, .iconst 1, 7, 0, 0, 0), (7, .invokevirtual 41, 10, 78, 1, 0), (10, .iadd, 11, 0, 0, 0), (11, .ireturn, 12, 0, 0, 0)]
def tb_Table_scoredInAll : List (Nat × EN) := tb_Table_scoredInAll_0
def tb_Table_heldRods_0 : List (Nat × EN) := [(0, .aload_n 0, 1, 0, 0, 0), (1, .getfield 35, 4, 6, 2, 0), (4, .ireturn, 5, 0, 0, 0)]
def tb_Table_heldRods : List (Nat × EN) := tb_Table_heldRods_0
def tb_Table_isHeld_0 : List (Nat × EN) := [(0, .iload_n 1, 1, 0, 0, 0), (1, .invokestatic 44, 4, 52, 0, 0), (4, .ifCond .eq 19, 7, 23, 0, 0), (7, .aload_n 0, 8, 0, 0, 0), (8, .getfield 35, 11, 6, 2, 0), (11, .iload_n 1, 12, 0, 0, 0), (12, .ishr, 13, 0, 0, 0), (13, .iconst 1, 14, 0, 0, 0), (14, .iand, 15, 0, 0, 0), (15, .iconst 1, 16, 0, 0, 0), (16, .if_icmp .ne 7, 19, 23, 0, 0), (19, .iconst 1, 20, 0, 0, 0), (20, .goto 4, 23, 24, 0, 0), (23, .iconst 0, 24, 0, 0, 0), (24, .ireturn, 25, 0, 0, 0)]
def tb_Table_isHeld : List (Nat × EN) := tb_Table_isHeld_0
def tb_Table_heldBy_0 : List (Nat × EN) := [(0, .iconst 0, 1, 0, 0, 0), (1, .istore_n 2, 2, 0, 0, 0), (2, .iconst 0, 3, 0, 0, 0), (3, .istore_n 3, 4, 0, 0, 0), (4, .iload_n 3, 5, 0, 0, 0), (5, .bipush 8, 7, 0, 0, 0), (7, .if_icmp .ge 28, 10, 35, 0, 0), (10, .iload_n 3, 11, 0, 0, 0), (11, .invokestatic 48, 14, 54, 0, 0), (14, .iload_n 1, 15, 0, 0, 0), (15, .if_icmp .ne 14, 18, 29, 0, 0), (18, .aload_n 0, 19, 0, 0, 0), (19, .iload_n 3, 20, 0, 0, 0), (20, .invokevirtual 51, 23, 82, 1, 0), (23, .ifCond .eq 6, 26, 29, 0, 0), (26, .iinc 2 1, 29, 0, 0, 0), (29, .iinc 3 1, 32, 0, 0, 0), (32, .goto (-28), 35, 4, 0, 0), (35, .iload_n 2, 36, 0, 0, 0), (36, .ireturn, 37, 0, 0, 0)]
def tb_Table_heldBy : List (Nat × EN) := tb_Table_heldBy_0
def tb_Table_setHeld_0 : List (Nat × EN) := [(0, .iload_n 1, 1, 0, 0, 0), (1, .invokestatic 44, 4, 52, 0, 0), (4, .ifCond .ne 4, 7, 8, 0, 0), (7, .return_, 8, 0, 0, 0), (8, .aload_n 0, 9, 0, 0, 0), (9, .iload_n 2, 10, 0, 0, 0), (10, .ifCond .eq 14, 13, 24, 0, 0), (13, .aload_n 0, 14, 0, 0, 0), (14, .getfield 35, 17, 6, 2, 0), (17, .iconst 1, 18, 0, 0, 0), (18, .iload_n 1, 19, 0, 0, 0), (19, .ishl, 20, 0, 0, 0), (20, .ior, 21, 0, 0, 0), (21, .goto 13, 24, 34, 0, 0), (24, .aload_n 0, 25, 0, 0, 0), (25, .getfield 35, 28, 6, 2, 0), (28, .iconst 1, 29, 0, 0, 0), (29, .iload_n 1, 30, 0, 0, 0), (30, .ishl, 31, 0, 0, 0), (31, .iconst (-1), 32, 0, 0, 0), (32, .ixor, 33, 0, 0, 0), (33, .iand, 34, 0, 0, 0), (34, .putfield 35, 37, 6, 2, 0), (37, .return_, 38, 0, 0, 0)]
def tb_Table_setHeld : List (Nat × EN) := tb_Table_setHeld_0
def tb_Table_tenth_0 : List (Nat × EN) := [(0, .aload_n 0, 1, 0, 0, 0), (1, .getfield 38, 4, 6, 5, 0), (4, .ireturn, 5, 0, 0, 0)]
def tb_Table_tenth : List (Nat × EN) := tb_Table_tenth_0
def tb_Table_isDead_0 : List (Nat × EN) := [(0, .aload_n 0, 1, 0, 0, 0), (1, .getfield 24, 4, 6, 3, 0), (4, .bipush (-6), 6, 0, 0, 0), (6, .if_icmp .ne 7, 9, 13, 0, 0), (9, .iconst 1, 10, 0, 0, 0), (10, .goto 4, 13, 14, 0, 0), (13, .iconst 0, 14, 0, 0, 0), (14, .ireturn, 15, 0, 0, 0)]
def tb_Table_isDead : List (Nat × EN) := tb_Table_isDead_0
def tb_Table_ballRod_0 : List (Nat × EN) := [(0, .aload_n 0, 1, 0, 0, 0), (1, .getfield 24, 4, 6, 3, 0), (4, .ireturn, 5, 0, 0, 0)]
def tb_Table_ballRod : List (Nat × EN) := tb_Table_ballRod_0
def tb_Table_ballMan_0 : List (Nat × EN) := [(0, .aload_n 0, 1, 0, 0, 0), (1, .getfield 28, 4, 6, 4, 0), (4, .ireturn, 5, 0, 0, 0)]
def tb_Table_ballMan : List (Nat × EN) := tb_Table_ballMan_0
def tb_Table_ballPlace_0 : List (Nat × EN) := [(0, .aload_n 0, 1, 0, 0, 0), (1, .invokevirtual 54, 4, 86, 1, 0), (4, .ifCond .eq 8, 7, 12, 0, 0), (7, .bipush (-6), 9, 0, 0, 0), (9, .goto 15, 12, 24, 0, 0), (12, .aload_n 0, 13, 0, 0, 0), (13, .aload_n 0, 14, 0, 0, 0), (14, .getfield 24, 17, 6, 3, 0), (17, .aload_n 0, 18, 0, 0, 0), (18, .getfield 28, 21, 6, 4, 0), (21, .invokevirtual 58, 24, 92, 1, 0), (24, .ireturn, 25, 0, 0, 0)]
def tb_Table_ballPlace : List (Nat × EN) := tb_Table_ballPlace_0
def tb_Table_loseBall_0 : List (Nat × EN) := [(0, .aload_n 0, 1, 0, 0, 0), (1, .bipush (-6), 3, 0, 0, 0), (3, .putfield 24, 6, 6, 3, 0), (6, .aload_n 0, 7, 0, 0, 0), (7, .bipush (-6), 9, 0, 0, 0), (9, .putfield 28, 12, 6, 4, 0), (12, .return_, 13, 0, 0, 0)]
def tb_Table_loseBall : List (Nat × EN) := tb_Table_loseBall_0
def tb_Table_giveBall_0 : List (Nat × EN) := [(0, .iload_n 1, 1, 0, 0, 0), (1, .ifCond .ge 4, 4, 5, 0, 0), (4, .return_, 5, 0, 0, 0), (5, .aload_n 0, 6, 0, 0, 0), (6, .iload_n 1, 7, 0, 0, 0), (7, .bipush 10, 9, 0, 0, 0), (9, .idiv, 10, 0, 0, 0), (10, .putfield 24, 13, 6, 3, 0), (13, .aload_n 0, 14, 0, 0, 0), (14, .iload_n 1, 15, 0, 0, 0), (15, .bipush 10, 17, 0, 0, 0), (17, .irem, 18, 0, 0, 0), (18, .putfield 28, 21, 6, 4, 0), (21, .return_, 22, 0, 0, 0)]
def tb_Table_giveBall : List (Nat × EN) := tb_Table_giveBall_0
def tb_Table_placeOf_0 : List (Nat × EN) := [(0, .aload_n 0, 1, 0, 0, 0), (1, .iload_n 1, 2, 0, 0, 0), (2, .invokevirtual 62, 5, 76, 1, 0), (5, .iload_n 2, 6, 0, 0, 0), (6, .iload_n 1, 7, 0, 0, 0), (7, .invokestatic 65, 10, 56, 0, 0), (10, .imul, 11, 0, 0, 0), (11, .iadd, 12, 0, 0, 0), (12, .ireturn, 13, 0, 0, 0)]
def tb_Table_placeOf : List (Nat × EN) := tb_Table_placeOf_0
def tb_Table_covererOf_0 : List (Nat × EN) := [(0, .aload_n 0, 1, 0, 0, 0), (1, .iload_n 1, 2, 0, 0, 0), (2, .invokevirtual 62, 5, 76, 1, 0), (5, .istore_n 3, 6, 0, 0, 0), (6, .iload_n 1, 7, 0, 0, 0), (7, .invokestatic 65, 10, 56, 0, 0), (10, .istore 4, 12, 0, 0, 0), (12, .iconst 0, 13, 0, 0, 0), (13, .istore 5, 15, 0, 0, 0), (15, .iload 5, 17, 0, 0, 0), (17, .iload_n 1, 18, 0, 0, 0), (18, .invokestatic 68, 21, 55, 0, 0), (21, .if_icmp .ge 28, 24, 49, 0, 0), (24, .iload_n 3, 25, 0, 0, 0), (25, .iload 5, 27, 0, 0, 0), (27, .iload 4, 29, 0, 0, 0), (29, .imul, 30, 0, 0, 0), (30, .iadd, 31, 0, 0, 0), (31, .iload_n 2, 32, 0, 0, 0), (32, .isub, 33, 0, 0, 0), (33, .invokestatic 71, 36, 212, 0, 0), (36, .iconst 1, 37, 0, 0, 0), (37, .if_icmp .gt 6, 40, 43, 0, 0), (40, .iload 5, 42, 0, 0, 0), (42, .ireturn, 43, 0, 0, 0), (43, .iinc 5 1, 46, 0, 0, 0), (46, .goto (-31), 49, 15, 0, 0), (49, .iconst (-1), 50, 0, 0, 0), (50, .ireturn, 51, 0, 0, 0)]
def tb_Table_covererOf : List (Nat × EN) := tb_Table_covererOf_0
def tb_Table_nearestOf_0 : List (Nat × EN) := [(0, .aload_n 0, 1, 0, 0, 0), (1, .iload_n 1, 2, 0, 0, 0), (2, .invokevirtual 62, 5, 76, 1, 0), (5, .istore_n 3, 6, 0, 0, 0), (6, .iload_n 1, 7, 0, 0, 0), (7, .invokestatic 65, 10, 56, 0, 0), (10, .istore 4, 12, 0, 0, 0), (12, .iconst 0, 13, 0, 0, 0), (13, .istore 5, 15, 0, 0, 0), (15, .iconst 1, 16, 0, 0, 0), (16, .istore 6, 18, 0, 0, 0), (18, .iload 6, 20, 0, 0, 0), (20, .iload_n 1, 21, 0, 0, 0), (21, .invokestatic 68, 24, 55, 0, 0), (24, .if_icmp .ge 40, 27, 64, 0, 0), (27, .iload_n 3, 28, 0, 0, 0), (28, .iload 6, 30, 0, 0, 0), (30, .iload 4, 32, 0, 0, 0), (32, .imul, 33, 0, 0, 0), (33, .iadd, 34, 0, 0, 0), (34, .iload_n 2, 35, 0, 0, 0), (35, .isub, 36, 0, 0, 0), (36, .invokestatic 71, 39, 212, 0, 0), (39, .iload_n 3, 40, 0, 0, 0), (40, .iload 5, 42, 0, 0, 0), (42, .iload 4, 44, 0, 0, 0), (44, .imul, 45, 0, 0, 0), (45, .iadd, 46, 0, 0, 0), (46, .iload_n 2, 47, 0, 0, 0), (47, .isub, 48, 0, 0, 0), (48, .invokestatic 71, 51, 212, 0, 0), (51, .if_icmp .ge 7, 54, 58, 0, 0), (54, .iload 6, 56, 0, 0, 0), (56, .istore 5, 58, 0, 0, 0), (58, .iinc 6 1, 61, 0, 0, 0), (61, .goto (-43), 64, 18, 0, 0), (64, .iload 5, 66, 0, 0, 0), (66, .ireturn, 67, 0, 0, 0)]
def tb_Table_nearestOf : List (Nat × EN) := tb_Table_nearestOf_0
def tb_Table_overFrom_0 : List (Nat × EN) := [(0, .iload_n 1, 1, 0, 0, 0), (1, .invokestatic 48, 4, 54, 0, 0), (4, .istore 4, 6, 0, 0, 0), (6, .iload_n 3, 7, 0, 0, 0), (7, .iload_n 1, 8, 0, 0, 0), (8, .if_icmp .eq 12, 11, 20, 0, 0), (11, .iload_n 3, 12, 0, 0, 0), (12, .iload 4, 14, 0, 0, 0), (14, .invokestatic 76, 17, 58, 0, 0), (17, .ifCond .ne 5, 20, 22, 0, 0), (20, .iconst (-1), 21, 0, 0, 0), (21, .ireturn, 22, 0, 0, 0), (22, .aload_n 0, 23, 0, 0, 0), (23, .iload_n 1, 24, 0, 0, 0), (24, .iload_n 2, 25, 0, 0, 0), (25, .invokevirtual 58, 28, 92, 1, 0), (28, .istore 5, 30, 0, 0, 0), (30, .aload_n 0, 31, 0, 0, 0), (31, .iload_n 3, 32, 0, 0, 0), (32, .iload 5, 34, 0, 0, 0), (34, .invokevirtual 80, 37, 94, 1, 0), (37, .istore 6, 39, 0, 0, 0), (39, .aload_n 0, 40, 0, 0, 0), (40, .iload_n 3, 41, 0, 0, 0), (41, .iload 6, 43, 0, 0, 0), (43, .invokevirtual 58, 46, 92, 1, 0), (46, .iload 5, 48, 0, 0, 0), (48, .isub, 49, 0, 0, 0), (49, .invokestatic 71, 52, 212, 0, 0), (52, .iconst 3, 53, 0, 0, 0), (53, .if_icmp .le 5, 56, 58, 0, 0), (56, .iconst (-1), 57, 0, 0, 0), (57, .ireturn, 58, 0, 0, 0), (58, .iload_n 3, 59, 0, 0, 0), (59, .iload_n 1, 60, 0, 0, 0), (60, .if_icmp .le 7, 63, 67, 0, 0), (63, .iconst 1, 64, 0, 0, 0), (64, .goto 4, 67, 68, 0, 0), (67, .iconst (-1), 68, 0, 0, 0), (68, .istore 7, 70, 0, 0, 0), (70, .iconst 1, 71, 0, 0, 0), (71, .istore 8, 73, 0, 0, 0), (73, .iload 8, 75, 0, 0, 0), (75, .bipush 8, 77, 0, 0, 0), (77, .if_icmp .ge 68, 80, 145, 0, 0), (80, .iload_n 1, 81, 0, 0, 0), (81, .iload 8, 83, 0, 0, 0), (83, .iload 7, 85, 0, 0, 0), (85, .imul, 86, 0, 0, 0), (86, .iadd, 87, 0, 0, 0), (87, .istore 9, 89, 0, 0, 0), (89, .iload 9, 91, 0, 0, 0), (91, .iload_n 3, 92, 0, 0, 0), (92, .if_icmp .ne 6, 95, 98, 0, 0), (95, .goto 50, 98, 145, 0, 0), (98, .iload 9, 100, 0, 0, 0), (100, .iconst 1, 101, 0, 0, 0), (101, .iload 4, 103, 0, 0, 0), (103, .isub, 104, 0, 0, 0), (104, .invokestatic 76, 107, 58, 0, 0)]
def tb_Table_overFrom_1 : List (Nat × EN) := [(107, .ifCond .eq 14, 110, 121, 0, 0), (110, .aload_n 0, 111, 0, 0, 0), (111, .iload 9, 113, 0, 0, 0), (113, .iload 5, 115, 0, 0, 0), (115, .invokevirtual 83, 118, 93, 1, 0), (118, .goto 4, 121, 122, 0, 0), (121, .iconst (-1), 122, 0, 0, 0), (122, .istore 10, 124, 0, 0, 0), (124, .iload 10, 126, 0, 0, 0), (126, .iconst (-1), 127, 0, 0, 0), (127, .if_icmp .eq 12, 130, 139, 0, 0), (130, .bipush 10, 132, 0, 0, 0), (132, .iload 9, 134, 0, 0, 0), (134, .imul, 135, 0, 0, 0), (135, .iload 10, 137, 0, 0, 0), (137, .iadd, 138, 0, 0, 0), (138, .ireturn, 139, 0, 0, 0), (139, .iinc 8 1, 142, 0, 0, 0), (142, .goto (-69), 145, 73, 0, 0), (145, .bipush 10, 147, 0, 0, 0), (147, .iload_n 3, 148, 0, 0, 0), (148, .imul, 149, 0, 0, 0), (149, .iload 6, 151, 0, 0, 0), (151, .iadd, 152, 0, 0, 0), (152, .ireturn, 153, 0, 0, 0)]
def tb_Table_overFrom : List (Nat × EN) := tb_Table_overFrom_0 ++ tb_Table_overFrom_1
def tb_Table_shotEnd_0 : List (Nat × EN) := [(0, .aload_n 0, 1, 0, 0, 0), (1, .invokevirtual 54, 4, 86, 1, 0), (4, .ifCond .eq 5, 7, 9, 0, 0), (7, .iconst (-1), 8, 0, 0, 0), (8, .ireturn, 9, 0, 0, 0), (9, .aload_n 0, 10, 0, 0, 0), (10, .getfield 24, 13, 6, 3, 0), (13, .invokestatic 48, 16, 54, 0, 0), (16, .istore_n 2, 17, 0, 0, 0), (17, .aload_n 0, 18, 0, 0, 0), (18, .aload_n 0, 19, 0, 0, 0), (19, .getfield 24, 22, 6, 3, 0), (22, .aload_n 0, 23, 0, 0, 0), (23, .getfield 28, 26, 6, 4, 0), (26, .invokevirtual 58, 29, 92, 1, 0), (29, .istore_n 3, 30, 0, 0, 0), (30, .iconst 1, 31, 0, 0, 0), (31, .istore 4, 33, 0, 0, 0), (33, .iload 4, 35, 0, 0, 0), (35, .bipush 8, 37, 0, 0, 0), (37, .if_icmp .ge 66, 40, 103, 0, 0), (40, .aload_n 0, 41, 0, 0, 0), (41, .getfield 24, 44, 6, 3, 0), (44, .iload 4, 46, 0, 0, 0), (46, .iload_n 2, 47, 0, 0, 0), (47, .invokestatic 86, 50, 61, 0, 0), (50, .imul, 51, 0, 0, 0), (51, .iadd, 52, 0, 0, 0), (52, .istore 5, 54, 0, 0, 0), (54, .iload 5, 56, 0, 0, 0), (56, .iconst 1, 57, 0, 0, 0), (57, .iload_n 2, 58, 0, 0, 0), (58, .isub, 59, 0, 0, 0), (59, .invokestatic 76, 62, 58, 0, 0), (62, .ifCond .eq 35, 65, 97, 0, 0), (65, .aload_n 0, 66, 0, 0, 0), (66, .iload 5, 68, 0, 0, 0), (68, .iload_n 3, 69, 0, 0, 0), (69, .iload 4, 71, 0, 0, 0), (71, .iload_n 1, 72, 0, 0, 0), (72, .imul, 73, 0, 0, 0), (73, .iadd, 74, 0, 0, 0), (74, .invokestatic 89, 77, 100, 0, 0), (77, .invokevirtual 83, 80, 93, 1, 0), (80, .istore 6, 82, 0, 0, 0), (82, .iload 6, 84, 0, 0, 0), (84, .iconst (-1), 85, 0, 0, 0), (85, .if_icmp .eq 12, 88, 97, 0, 0), (88, .bipush 10, 90, 0, 0, 0), (90, .iload 5, 92, 0, 0, 0), (92, .imul, 93, 0, 0, 0), (93, .iload 6, 95, 0, 0, 0), (95, .iadd, 96, 0, 0, 0), (96, .ireturn, 97, 0, 0, 0), (97, .iinc 4 1, 100, 0, 0, 0), (100, .goto (-67), 103, 33, 0, 0), (103, .aload_n 0, 104, 0, 0, 0), (104, .iload_n 3, 105, 0, 0, 0), (105, .iload_n 1, 106, 0, 0, 0), (106, .invokevirtual 92, 109, 97, 1, 0)]
def tb_Table_shotEnd_1 : List (Nat × EN) := [(109, .ifCond .eq 8, 112, 117, 0, 0), (112, .bipush 80, 114, 0, 0, 0), (114, .goto 12, 117, 126, 0, 0), (117, .bipush 10, 119, 0, 0, 0), (119, .iconst 1, 120, 0, 0, 0), (120, .iload_n 2, 121, 0, 0, 0), (121, .isub, 122, 0, 0, 0), (122, .invokestatic 95, 125, 59, 0, 0), (125, .imul, 126, 0, 0, 0), (126, .ireturn, 127, 0, 0, 0)]
def tb_Table_shotEnd : List (Nat × EN) := tb_Table_shotEnd_0 ++ tb_Table_shotEnd_1
def tb_Table_reachesGoal_0 : List (Nat × EN) := [(0, .iconst 1, 1, 0, 0, 0), (1, .aload_n 0, 2, 0, 0, 0), (2, .getfield 24, 5, 6, 3, 0), (5, .invokestatic 48, 8, 54, 0, 0), (8, .isub, 9, 0, 0, 0), (9, .invokestatic 95, 12, 59, 0, 0), (12, .aload_n 0, 13, 0, 0, 0), (13, .getfield 24, 16, 6, 3, 0), (16, .isub, 17, 0, 0, 0), (17, .invokestatic 71, 20, 212, 0, 0), (20, .iconst 1, 21, 0, 0, 0), (21, .iadd, 22, 0, 0, 0), (22, .istore_n 3, 23, 0, 0, 0), (23, .iload_n 1, 24, 0, 0, 0), (24, .iload_n 3, 25, 0, 0, 0), (25, .iload_n 2, 26, 0, 0, 0), (26, .imul, 27, 0, 0, 0), (27, .iadd, 28, 0, 0, 0), (28, .invokestatic 89, 31, 100, 0, 0), (31, .istore 4, 33, 0, 0, 0), (33, .iload 4, 35, 0, 0, 0), (35, .bipush 15, 37, 0, 0, 0), (37, .if_icmp .lt 14, 40, 51, 0, 0), (40, .iload 4, 42, 0, 0, 0), (42, .bipush 25, 44, 0, 0, 0), (44, .if_icmp .gt 7, 47, 51, 0, 0), (47, .iconst 1, 48, 0, 0, 0), (48, .goto 4, 51, 52, 0, 0), (51, .iconst 0, 52, 0, 0, 0), (52, .ireturn, 53, 0, 0, 0)]
def tb_Table_reachesGoal : List (Nat × EN) := tb_Table_reachesGoal_0
def tb_Table_shotsToGoal_0 : List (Nat × EN) := [(0, .aload_n 0, 1, 0, 0, 0), (1, .invokevirtual 98, 4, 89, 1, 0), (4, .istore_n 1, 5, 0, 0, 0), (5, .iconst 0, 6, 0, 0, 0), (6, .istore_n 2, 7, 0, 0, 0), (7, .bipush (-9), 9, 0, 0, 0), (9, .istore_n 3, 10, 0, 0, 0), (10, .iload_n 3, 11, 0, 0, 0), (11, .bipush 9, 13, 0, 0, 0), (13, .if_icmp .gt 25, 16, 38, 0, 0), (16, .aload_n 0, 17, 0, 0, 0), (17, .iload_n 1, 18, 0, 0, 0), (18, .iload_n 3, 19, 0, 0, 0), (19, .invokevirtual 92, 22, 97, 1, 0), (22, .ifCond .eq 10, 25, 32, 0, 0), (25, .iload_n 2, 26, 0, 0, 0), (26, .iload_n 3, 27, 0, 0, 0), (27, .invokestatic 102, 30, 143, 3, 0), (30, .ior, 31, 0, 0, 0), (31, .istore_n 2, 32, 0, 0, 0), (32, .iinc 3 1, 35, 0, 0, 0), (35, .goto (-25), 38, 10, 0, 0), (38, .iload_n 2, 39, 0, 0, 0), (39, .ireturn, 40, 0, 0, 0)]
def tb_Table_shotsToGoal : List (Nat × EN) := tb_Table_shotsToGoal_0
def tb_Table_shotsPast_0 : List (Nat × EN) := [(0, .aload_n 0, 1, 0, 0, 0), (1, .invokevirtual 98, 4, 89, 1, 0), (4, .istore_n 2, 5, 0, 0, 0), (5, .iconst 0, 6, 0, 0, 0), (6, .istore_n 3, 7, 0, 0, 0), (7, .bipush (-9), 9, 0, 0, 0), (9, .istore 4, 11, 0, 0, 0), (11, .iload 4, 13, 0, 0, 0), (13, .bipush 9, 15, 0, 0, 0), (15, .if_icmp .gt 47, 18, 62, 0, 0), (18, .iload_n 2, 19, 0, 0, 0), (19, .iload_n 1, 20, 0, 0, 0), (20, .aload_n 0, 21, 0, 0, 0), (21, .getfield 24, 24, 6, 3, 0), (24, .isub, 25, 0, 0, 0), (25, .invokestatic 71, 28, 212, 0, 0), (28, .iload 4, 30, 0, 0, 0), (30, .imul, 31, 0, 0, 0), (31, .iadd, 32, 0, 0, 0), (32, .invokestatic 89, 35, 100, 0, 0), (35, .istore 5, 37, 0, 0, 0), (37, .aload_n 0, 38, 0, 0, 0), (38, .iload_n 1, 39, 0, 0, 0), (39, .iload 5, 41, 0, 0, 0), (41, .invokevirtual 83, 44, 93, 1, 0), (44, .iconst (-1), 45, 0, 0, 0), (45, .if_icmp .ne 11, 48, 56, 0, 0), (48, .iload_n 3, 49, 0, 0, 0), (49, .iload 4, 51, 0, 0, 0), (51, .invokestatic 102, 54, 143, 3, 0), (54, .ior, 55, 0, 0, 0), (55, .istore_n 3, 56, 0, 0, 0), (56, .iinc 4 1, 59, 0, 0, 0), (59, .goto (-48), 62, 11, 0, 0), (62, .iload_n 3, 63, 0, 0, 0), (63, .ireturn, 64, 0, 0, 0)]
def tb_Table_shotsPast : List (Nat × EN) := tb_Table_shotsPast_0
def tb_Table_bounced_0 : List (Nat × EN) := [(0, .iload_n 0, 1, 0, 0, 0), (1, .bipush 80, 3, 0, 0, 0), (3, .invokestatic 105, 6, 211, 0, 0), (6, .istore_n 1, 7, 0, 0, 0), (7, .iload_n 1, 8, 0, 0, 0), (8, .bipush 40, 10, 0, 0, 0), (10, .if_icmp .le 10, 13, 20, 0, 0), (13, .bipush 80, 15, 0, 0, 0), (15, .iload_n 1, 16, 0, 0, 0), (16, .isub, 17, 0, 0, 0), (17, .goto 4, 20, 21, 0, 0), (20, .iload_n 1, 21, 0, 0, 0), (21, .ireturn, 22, 0, 0, 0)]
def tb_Table_bounced : List (Nat × EN) := tb_Table_bounced_0
def tb_Table_whyNot_0 : List (Nat × EN) := [(0, .aload_n 0, 1, 0, 0, 0), (1, .iconst 0, 2, 0, 0, 0), (2, .invokevirtual 41, 5, 78, 1, 0), (5, .bipush 10, 7, 0, 0, 0), (7, .if_icmp .ge 13, 10, 20, 0, 0), (10, .aload_n 0, 11, 0, 0, 0), (11, .iconst 1, 12, 0, 0, 0), (12, .invokevirtual 41, 15, 78, 1, 0), (15, .bipush 10, 17, 0, 0, 0), (17, .if_icmp .lt 5, 20, 22, 0, 0), (20, .iconst 1, 21, 0, 0, 0), (21, .ireturn, 22, 0, 0, 0), (22, .iload_n 1, 23, 0, 0, 0), (23, .invokestatic 108, 26, 102, 0, 0), (26, .ifCond .eq 13, 29, 39, 0, 0), (29, .aload_n 0, 30, 0, 0, 0), (30, .invokevirtual 54, 33, 86, 1, 0), (33, .ifCond .eq 21, 36, 54, 0, 0), (36, .goto 16, 39, 52, 0, 0), (39, .iload_n 1, 40, 0, 0, 0), (40, .bipush 7, 42, 0, 0, 0), (42, .if_icmp .ne 12, 45, 54, 0, 0), (45, .aload_n 0, 46, 0, 0, 0), (46, .invokevirtual 54, 49, 86, 1, 0), (49, .ifCond .ne 5, 52, 54, 0, 0), (52, .iconst 2, 53, 0, 0, 0), (53, .ireturn, 54, 0, 0, 0), (54, .aload_n 0, 55, 0, 0, 0), (55, .iload_n 1, 56, 0, 0, 0), (56, .iload_n 2, 57, 0, 0, 0), (57, .invokevirtual 111, 60, 103, 1, 0), (60, .ifCond .eq 5, 63, 65, 0, 0), (63, .iconst 3, 64, 0, 0, 0), (64, .ireturn, 65, 0, 0, 0), (65, .iload_n 1, 66, 0, 0, 0), (66, .ifCond .ne 17, 69, 83, 0, 0), (69, .aload_n 0, 70, 0, 0, 0), (70, .iload_n 2, 71, 0, 0, 0), (71, .invokestatic 48, 74, 54, 0, 0), (74, .invokevirtual 114, 77, 83, 1, 0), (77, .iconst 2, 78, 0, 0, 0), (78, .if_icmp .lt 5, 81, 83, 0, 0), (81, .iconst 4, 82, 0, 0, 0), (82, .ireturn, 83, 0, 0, 0), (83, .iload_n 1, 84, 0, 0, 0), (84, .iconst 2, 85, 0, 0, 0), (85, .if_icmp .ne 15, 88, 100, 0, 0), (88, .aload_n 0, 89, 0, 0, 0), (89, .iload_n 2, 90, 0, 0, 0), (90, .invokevirtual 62, 93, 76, 1, 0), (93, .iload_n 3, 94, 0, 0, 0), (94, .isub, 95, 0, 0, 0), (95, .ifCond .ge 5, 98, 100, 0, 0), (98, .iconst 5, 99, 0, 0, 0), (99, .ireturn, 100, 0, 0, 0), (100, .iload_n 1, 101, 0, 0, 0), (101, .iconst 3, 102, 0, 0, 0), (102, .if_icmp .ne 19, 105, 121, 0, 0), (105, .aload_n 0, 106, 0, 0, 0), (106, .iload_n 2, 107, 0, 0, 0)]
def tb_Table_whyNot_1 : List (Nat × EN) := [(107, .invokevirtual 62, 110, 76, 1, 0), (110, .iload_n 3, 111, 0, 0, 0), (111, .iadd, 112, 0, 0, 0), (112, .iload_n 2, 113, 0, 0, 0), (113, .invokestatic 18, 116, 57, 0, 0), (116, .if_icmp .le 5, 119, 121, 0, 0), (119, .iconst 5, 120, 0, 0, 0), (120, .ireturn, 121, 0, 0, 0), (121, .iload_n 1, 122, 0, 0, 0), (122, .bipush 7, 124, 0, 0, 0), (124, .if_icmp .ne 14, 127, 138, 0, 0), (127, .iload_n 2, 128, 0, 0, 0), (128, .iload_n 3, 129, 0, 0, 0), (129, .invokestatic 117, 132, 53, 0, 0), (132, .ifCond .ne 6, 135, 138, 0, 0), (135, .bipush 6, 137, 0, 0, 0), (137, .ireturn, 138, 0, 0, 0), (138, .iload_n 1, 139, 0, 0, 0), (139, .iconst 4, 140, 0, 0, 0), (140, .if_icmp .ne 14, 143, 154, 0, 0), (143, .aload_n 0, 144, 0, 0, 0), (144, .iload_n 3, 145, 0, 0, 0), (145, .invokevirtual 120, 148, 104, 1, 0), (148, .ifCond .ne 6, 151, 154, 0, 0), (151, .bipush 6, 153, 0, 0, 0), (153, .ireturn, 154, 0, 0, 0), (154, .iload_n 1, 155, 0, 0, 0), (155, .iconst 5, 156, 0, 0, 0), (156, .if_icmp .ne 23, 159, 179, 0, 0), (159, .aload_n 0, 160, 0, 0, 0), (160, .aload_n 0, 161, 0, 0, 0), (161, .getfield 24, 164, 6, 3, 0), (164, .aload_n 0, 165, 0, 0, 0), (165, .getfield 28, 168, 6, 4, 0), (168, .iload_n 2, 169, 0, 0, 0), (169, .invokevirtual 123, 172, 95, 1, 0), (172, .iconst (-1), 173, 0, 0, 0), (173, .if_icmp .ne 6, 176, 179, 0, 0), (176, .bipush 6, 178, 0, 0, 0), (178, .ireturn, 179, 0, 0, 0), (179, .iload_n 1, 180, 0, 0, 0), (180, .bipush 8, 182, 0, 0, 0), (182, .if_icmp .ne 16, 185, 198, 0, 0), (185, .aload_n 0, 186, 0, 0, 0), (186, .getfield 38, 189, 6, 5, 0), (189, .sipush 999, 192, 0, 0, 0), (192, .if_icmp .lt 6, 195, 198, 0, 0), (195, .bipush 7, 197, 0, 0, 0), (197, .ireturn, 198, 0, 0, 0), (198, .iconst 0, 199, 0, 0, 0), (199, .ireturn, 200, 0, 0, 0)]
def tb_Table_whyNot : List (Nat × EN) := tb_Table_whyNot_0 ++ tb_Table_whyNot_1
def tb_Table_isPlayed_0 : List (Nat × EN) := [(0, .iload_n 0, 1, 0, 0, 0), (1, .iconst 4, 2, 0, 0, 0), (2, .if_icmp .eq 14, 5, 16, 0, 0), (5, .iload_n 0, 6, 0, 0, 0), (6, .iconst 5, 7, 0, 0, 0), (7, .if_icmp .eq 9, 10, 16, 0, 0), (10, .iload_n 0, 11, 0, 0, 0), (11, .bipush 6, 13, 0, 0, 0), (13, .if_icmp .ne 7, 16, 20, 0, 0), (16, .iconst 1, 17, 0, 0, 0), (17, .goto 4, 20, 21, 0, 0), (20, .iconst 0, 21, 0, 0, 0), (21, .ireturn, 22, 0, 0, 0)]
def tb_Table_isPlayed : List (Nat × EN) := tb_Table_isPlayed_0
def tb_Table_isHeldWrongly_0 : List (Nat × EN) := [(0, .iload_n 1, 1, 0, 0, 0), (1, .tableswitch 51 0 3 #[31, 37, 37, 37], 32, 0, 0, 0), (32, .aload_n 0, 33, 0, 0, 0), (33, .iload_n 2, 34, 0, 0, 0), (34, .invokevirtual 51, 37, 82, 1, 0), (37, .ireturn, 38, 0, 0, 0), (38, .aload_n 0, 39, 0, 0, 0), (39, .iload_n 2, 40, 0, 0, 0), (40, .invokevirtual 51, 43, 82, 1, 0), (43, .ifCond .ne 7, 46, 50, 0, 0), (46, .iconst 1, 47, 0, 0, 0), (47, .goto 4, 50, 51, 0, 0), (50, .iconst 0, 51, 0, 0, 0), (51, .ireturn, 52, 0, 0, 0), (52, .iload_n 1, 53, 0, 0, 0), (53, .invokestatic 108, 56, 102, 0, 0), (56, .ifCond .eq 18, 59, 74, 0, 0), (59, .aload_n 0, 60, 0, 0, 0), (60, .aload_n 0, 61, 0, 0, 0), (61, .getfield 24, 64, 6, 3, 0), (64, .invokevirtual 51, 67, 82, 1, 0), (67, .ifCond .ne 7, 70, 74, 0, 0), (70, .iconst 1, 71, 0, 0, 0), (71, .goto 4, 74, 75, 0, 0), (74, .iconst 0, 75, 0, 0, 0), (75, .ireturn, 76, 0, 0, 0)]
def tb_Table_isHeldWrongly : List (Nat × EN) := tb_Table_isHeldWrongly_0
def tb_Table_isNextMan_0 : List (Nat × EN) := [(0, .aload_n 0, 1, 0, 0, 0), (1, .getfield 24, 4, 6, 3, 0), (4, .iload_n 1, 5, 0, 0, 0), (5, .invokestatic 117, 8, 53, 0, 0), (8, .ifCond .eq 20, 11, 28, 0, 0), (11, .iload_n 1, 12, 0, 0, 0), (12, .aload_n 0, 13, 0, 0, 0), (13, .getfield 28, 16, 6, 4, 0), (16, .isub, 17, 0, 0, 0), (17, .invokestatic 71, 20, 212, 0, 0), (20, .iconst 1, 21, 0, 0, 0), (21, .if_icmp .ne 7, 24, 28, 0, 0), (24, .iconst 1, 25, 0, 0, 0), (25, .goto 4, 28, 29, 0, 0), (28, .iconst 0, 29, 0, 0, 0), (29, .ireturn, 30, 0, 0, 0)]
def tb_Table_isNextMan : List (Nat × EN) := tb_Table_isNextMan_0
def tb_Table_perform_0 : List (Nat × EN) := [(0, .iload_n 1, 1, 0, 0, 0), (1, .tableswitch 173 0 8 #[51, 60, 69, 84, 99, 115, 135, 147, 160], 52, 0, 0, 0), (52, .aload_n 0, 53, 0, 0, 0), (53, .iload_n 2, 54, 0, 0, 0), (54, .iconst 1, 55, 0, 0, 0), (55, .invokevirtual 127, 58, 84, 1, 0), (58, .goto 116, 61, 174, 0, 0), (61, .aload_n 0, 62, 0, 0, 0), (62, .iload_n 2, 63, 0, 0, 0), (63, .iconst 0, 64, 0, 0, 0), (64, .invokevirtual 127, 67, 84, 1, 0), (67, .goto 107, 70, 174, 0, 0), (70, .aload_n 0, 71, 0, 0, 0), (71, .iload_n 2, 72, 0, 0, 0), (72, .aload_n 0, 73, 0, 0, 0), (73, .iload_n 2, 74, 0, 0, 0), (74, .invokevirtual 62, 77, 76, 1, 0), (77, .iload_n 3, 78, 0, 0, 0), (78, .isub, 79, 0, 0, 0), (79, .invokevirtual 131, 82, 77, 1, 0), (82, .goto 92, 85, 174, 0, 0), (85, .aload_n 0, 86, 0, 0, 0), (86, .iload_n 2, 87, 0, 0, 0), (87, .aload_n 0, 88, 0, 0, 0), (88, .iload_n 2, 89, 0, 0, 0), (89, .invokevirtual 62, 92, 76, 1, 0), (92, .iload_n 3, 93, 0, 0, 0), (93, .iadd, 94, 0, 0, 0), (94, .invokevirtual 131, 97, 77, 1, 0), (97, .goto 77, 100, 174, 0, 0), (100, .aload_n 0, 101, 0, 0, 0), (101, .bipush 10, 103, 0, 0, 0), (103, .aload_n 0, 104, 0, 0, 0), (104, .getfield 24, 107, 6, 3, 0), (107, .imul, 108, 0, 0, 0), (108, .iload_n 3, 109, 0, 0, 0), (109, .iadd, 110, 0, 0, 0), (110, .invokevirtual 135, 113, 91, 1, 0), (113, .goto 61, 116, 174, 0, 0), (116, .aload_n 0, 117, 0, 0, 0), (117, .aload_n 0, 118, 0, 0, 0), (118, .aload_n 0, 119, 0, 0, 0), (119, .getfield 24, 122, 6, 3, 0), (122, .aload_n 0, 123, 0, 0, 0), (123, .getfield 28, 126, 6, 4, 0), (126, .iload_n 2, 127, 0, 0, 0), (127, .invokevirtual 123, 130, 95, 1, 0), (130, .invokevirtual 135, 133, 91, 1, 0), (133, .goto 41, 136, 174, 0, 0), (136, .aload_n 0, 137, 0, 0, 0), (137, .aload_n 0, 138, 0, 0, 0), (138, .iload_n 3, 139, 0, 0, 0), (139, .invokevirtual 139, 142, 96, 1, 0), (142, .invokevirtual 142, 145, 106, 1, 0), (145, .goto 29, 148, 174, 0, 0), (148, .aload_n 0, 149, 0, 0, 0), (149, .bipush 10, 151, 0, 0, 0), (151, .iload_n 2, 152, 0, 0, 0), (152, .imul, 153, 0, 0, 0), (153, .iload_n 3, 154, 0, 0, 0)]
def tb_Table_perform_1 : List (Nat × EN) := [(154, .iadd, 155, 0, 0, 0), (155, .invokevirtual 135, 158, 91, 1, 0), (158, .goto 16, 161, 174, 0, 0), (161, .aload_n 0, 162, 0, 0, 0), (162, .dup, 163, 0, 0, 0), (163, .getfield 38, 166, 6, 5, 0), (166, .iconst 1, 167, 0, 0, 0), (167, .iadd, 168, 0, 0, 0), (168, .putfield 38, 171, 6, 5, 0), (171, .goto 3, 174, 174, 0, 0), (174, .return_, 175, 0, 0, 0)]
def tb_Table_perform : List (Nat × EN) := tb_Table_perform_0 ++ tb_Table_perform_1
def tb_Table_endShot_0 : List (Nat × EN) := [(0, .iload_n 1, 1, 0, 0, 0), (1, .bipush 80, 3, 0, 0, 0), (3, .if_icmp .ne 30, 6, 33, 0, 0), (6, .aload_n 0, 7, 0, 0, 0), (7, .getfield 24, 10, 6, 3, 0), (10, .invokestatic 48, 13, 54, 0, 0), (13, .istore_n 2, 14, 0, 0, 0), (14, .aload_n 0, 15, 0, 0, 0), (15, .iload_n 2, 16, 0, 0, 0), (16, .aload_n 0, 17, 0, 0, 0), (17, .iload_n 2, 18, 0, 0, 0), (18, .invokevirtual 41, 21, 78, 1, 0), (21, .iconst 1, 22, 0, 0, 0), (22, .iadd, 23, 0, 0, 0), (23, .invokevirtual 145, 26, 79, 1, 0), (26, .aload_n 0, 27, 0, 0, 0), (27, .invokevirtual 148, 30, 90, 1, 0), (30, .goto 8, 33, 38, 0, 0), (33, .aload_n 0, 34, 0, 0, 0), (34, .iload_n 1, 35, 0, 0, 0), (35, .invokevirtual 135, 38, 91, 1, 0), (38, .return_, 39, 0, 0, 0)]
def tb_Table_endShot : List (Nat × EN) := tb_Table_endShot_0
def tb_Table_tryDrawn_0 : List (Nat × EN) := [(0, .iload_n 1, 1, 0, 0, 0), (1, .bipush 8, 3, 0, 0, 0), (3, .irem, 4, 0, 0, 0), (4, .istore_n 2, 5, 0, 0, 0), (5, .iload_n 1, 6, 0, 0, 0), (6, .bipush 8, 8, 0, 0, 0), (8, .idiv, 9, 0, 0, 0), (9, .bipush 8, 11, 0, 0, 0), (11, .irem, 12, 0, 0, 0), (12, .istore_n 3, 13, 0, 0, 0), (13, .iload_n 3, 14, 0, 0, 0), (14, .bipush 7, 16, 0, 0, 0), (16, .if_icmp .ne 13, 19, 29, 0, 0), (19, .aload_n 0, 20, 0, 0, 0), (20, .invokevirtual 54, 23, 86, 1, 0), (23, .ifCond .ne 6, 26, 29, 0, 0), (26, .bipush 8, 28, 0, 0, 0), (28, .istore_n 3, 29, 0, 0, 0), (29, .iload_n 3, 30, 0, 0, 0), (30, .iload_n 1, 31, 0, 0, 0), (31, .bipush 64, 33, 0, 0, 0), (33, .idiv, 34, 0, 0, 0), (34, .invokestatic 151, 37, 108, 0, 0), (37, .istore 4, 39, 0, 0, 0), (39, .aload_n 0, 40, 0, 0, 0), (40, .iload_n 3, 41, 0, 0, 0), (41, .iload_n 2, 42, 0, 0, 0), (42, .iload 4, 44, 0, 0, 0), (44, .invokevirtual 154, 47, 101, 1, 0), (47, .ifCond .ne 11, 50, 58, 0, 0), (50, .aload_n 0, 51, 0, 0, 0), (51, .iload_n 3, 52, 0, 0, 0), (52, .iload_n 2, 53, 0, 0, 0), (53, .iload 4, 55, 0, 0, 0), (55, .invokevirtual 157, 58, 105, 1, 0), (58, .return_, 59, 0, 0, 0)]
def tb_Table_tryDrawn : List (Nat × EN) := tb_Table_tryDrawn_0
def tb_Table_drawnNumber_0 : List (Nat × EN) := [(0, .iload_n 0, 1, 0, 0, 0), (1, .tableswitch 58 2 7 #[39, 39, 46, 58, 50, 46], 40, 0, 0, 0), (40, .iconst 1, 41, 0, 0, 0), (41, .iload_n 1, 42, 0, 0, 0), (42, .bipush 9, 44, 0, 0, 0), (44, .irem, 45, 0, 0, 0), (45, .iadd, 46, 0, 0, 0), (46, .ireturn, 47, 0, 0, 0), (47, .iload_n 1, 48, 0, 0, 0), (48, .iconst 5, 49, 0, 0, 0), (49, .irem, 50, 0, 0, 0), (50, .ireturn, 51, 0, 0, 0), (51, .iload_n 1, 52, 0, 0, 0), (52, .bipush 19, 54, 0, 0, 0), (54, .irem, 55, 0, 0, 0), (55, .bipush 9, 57, 0, 0, 0), (57, .isub, 58, 0, 0, 0), (58, .ireturn, 59, 0, 0, 0), (59, .iconst 0, 60, 0, 0, 0), (60, .ireturn, 61, 0, 0, 0)]
def tb_Table_drawnNumber : List (Nat × EN) := tb_Table_drawnNumber_0
def tb_F_init_0 : List (Nat × EN) := [(0, .aload_n 0, 1, 0, 0, 0), (1, .invokespecial 1, 4, 0, 5, 0), (4, .aload_n 0, 5, 0, 0, 0), (5, .new 7, 8, 6, 0, 0), (8, .dup, 9, 0, 0, 0), (9, .invokespecial 9, 12, 74, 2, 0), (12, .putfield 10, 15, 7, 0, 2), (15, .aload_n 0, 16, 0, 0, 0), (16, .new 16, 19, 3, 0, 0), (19, .dup, 20, 0, 0, 0), (20, .invokespecial 18, 23, 28, 4, 0), (23, .putfield 19, 26, 7, 1, 2), (26, .aload_n 0, 27, 0, 0, 0), (27, .new 23, 30, 1, 0, 0), (30, .dup, 31, 0, 0, 0), (31, .invokespecial 25, 34, 13, 4, 0), (34, .putfield 26, 37, 7, 2, 2), (37, .aload_n 0, 38, 0, 0, 0), (38, .new 30, 41, 4, 0, 0), (41, .dup, 42, 0, 0, 0), (42, .invokespecial 32, 45, 45, 4, 0), (45, .putfield 33, 48, 7, 3, 2), (48, .aload_n 0, 49, 0, 0, 0), (49, .new 37, 52, 0, 0, 0), (52, .dup, 53, 0, 0, 0), (53, .invokespecial 39, 56, 7, 4, 0), (56, .putfield 40, 59, 7, 4, 2), (59, .aload_n 0, 60, 0, 0, 0), (60, .new 44, 63, 5, 0, 0), (63, .dup, 64, 0, 0, 0), (64, .invokespecial 46, 67, 62, 4, 0), (67, .putfield 47, 70, 7, 5, 2), (70, .aload_n 0, 71, 0, 0, 0), (71, .new 51, 74, 2, 0, 0), (74, .dup, 75, 0, 0, 0), (75, .invokespecial 53, 78, 25, 4, 0), (78, .putfield 54, 81, 7, 6, 2), (81, .aload_n 0, 82, 0, 0, 0), (82, .new 51, 85, 2, 0, 0), (85, .dup, 86, 0, 0, 0), (86, .invokespecial 53, 89, 25, 4, 0), (89, .putfield 58, 92, 7, 7, 2), (92, .aload_n 0, 93, 0, 0, 0), (93, .new 7, 96, 6, 0, 0), (96, .dup, 97, 0, 0, 0), (97, .invokespecial 9, 100, 74, 2, 0), (100, .putfield 61, 103, 7, 8, 2), (103, .return_, 104, 0, 0, 0)]
def tb_F_init : List (Nat × EN) := tb_F_init_0
def tb_F_slide_0 : List (Nat × EN) := [(0, .iload_n 1, 1, 0, 0, 0), (1, .invokestatic 64, 4, 52, 0, 0), (4, .ifCond .ne 5, 7, 9, 0, 0), (7, .iconst (-1), 8, 0, 0, 0), (8, .ireturn, 9, 0, 0, 0), (9, .iload_n 2, 10, 0, 0, 0), (10, .iconst 0, 11, 0, 0, 0), (11, .iload_n 1, 12, 0, 0, 0), (12, .invokestatic 70, 15, 57, 0, 0), (15, .invokestatic 74, 18, 140, 0, 0), (18, .ifCond .ne 6, 21, 24, 0, 0), (21, .bipush (-2), 23, 0, 0, 0), (23, .ireturn, 24, 0, 0, 0), (24, .aload_n 0, 25, 0, 0, 0), (25, .getfield 10, 28, 7, 0, 2), (28, .iload_n 1, 29, 0, 0, 0), (29, .invokevirtual 78, 32, 76, 1, 0), (32, .istore_n 3, 33, 0, 0, 0), (33, .aload_n 0, 34, 0, 0, 0), (34, .getfield 10, 37, 7, 0, 2), (37, .iload_n 1, 38, 0, 0, 0), (38, .iload_n 2, 39, 0, 0, 0), (39, .invokevirtual 81, 42, 77, 1, 0), (42, .iload_n 3, 43, 0, 0, 0), (43, .ireturn, 44, 0, 0, 0)]
def tb_F_slide : List (Nat × EN) := tb_F_slide_0
def tb_F_hold_0 : List (Nat × EN) := [(0, .iload_n 1, 1, 0, 0, 0), (1, .invokestatic 64, 4, 52, 0, 0), (4, .ifCond .ne 5, 7, 9, 0, 0), (7, .iconst (-1), 8, 0, 0, 0), (8, .ireturn, 9, 0, 0, 0), (9, .iload_n 1, 10, 0, 0, 0), (10, .invokestatic 85, 13, 54, 0, 0), (13, .istore_n 3, 14, 0, 0, 0), (14, .iload_n 2, 15, 0, 0, 0), (15, .ifCond .eq 29, 18, 44, 0, 0), (18, .aload_n 0, 19, 0, 0, 0), (19, .getfield 10, 22, 7, 0, 2), (22, .iload_n 1, 23, 0, 0, 0), (23, .invokevirtual 88, 26, 82, 1, 0), (26, .ifCond .ne 18, 29, 44, 0, 0), (29, .aload_n 0, 30, 0, 0, 0), (30, .getfield 10, 33, 7, 0, 2), (33, .iload_n 3, 34, 0, 0, 0), (34, .invokevirtual 91, 37, 83, 1, 0), (37, .iconst 2, 38, 0, 0, 0), (38, .if_icmp .lt 6, 41, 44, 0, 0), (41, .bipush (-4), 43, 0, 0, 0), (43, .ireturn, 44, 0, 0, 0), (44, .aload_n 0, 45, 0, 0, 0), (45, .getfield 10, 48, 7, 0, 2), (48, .iload_n 1, 49, 0, 0, 0), (49, .iload_n 2, 50, 0, 0, 0), (50, .invokevirtual 94, 53, 84, 1, 0), (53, .aload_n 0, 54, 0, 0, 0), (54, .getfield 10, 57, 7, 0, 2), (57, .iload_n 3, 58, 0, 0, 0), (58, .invokevirtual 91, 61, 83, 1, 0), (61, .ireturn, 62, 0, 0, 0)]
def tb_F_hold : List (Nat × EN) := tb_F_hold_0
def tb_F_ball_0 : List (Nat × EN) := [(0, .iload_n 1, 1, 0, 0, 0), (1, .iconst (-1), 2, 0, 0, 0), (2, .if_icmp .ne 12, 5, 14, 0, 0), (5, .aload_n 0, 6, 0, 0, 0), (6, .getfield 10, 9, 7, 0, 2), (9, .invokevirtual 98, 12, 90, 1, 0), (12, .iconst 1, 13, 0, 0, 0), (13, .ireturn, 14, 0, 0, 0), (14, .iload_n 1, 15, 0, 0, 0), (15, .iload_n 2, 16, 0, 0, 0), (16, .invokestatic 101, 19, 53, 0, 0), (19, .ifCond .ne 5, 22, 24, 0, 0), (22, .iconst (-1), 23, 0, 0, 0), (23, .ireturn, 24, 0, 0, 0), (24, .aload_n 0, 25, 0, 0, 0), (25, .getfield 10, 28, 7, 0, 2), (28, .bipush 10, 30, 0, 0, 0), (30, .iload_n 1, 31, 0, 0, 0), (31, .imul, 32, 0, 0, 0), (32, .iload_n 2, 33, 0, 0, 0), (33, .iadd, 34, 0, 0, 0), (34, .invokevirtual 105, 37, 91, 1, 0), (37, .iconst 1, 38, 0, 0, 0), (38, .ireturn, 39, 0, 0, 0)]
def tb_F_ball : List (Nat × EN) := tb_F_ball_0
def tb_F_goals_0 : List (Nat × EN) := [(0, .iload_n 1, 1, 0, 0, 0), (1, .invokestatic 109, 4, 141, 0, 0), (4, .ifCond .ne 5, 7, 9, 0, 0), (7, .iconst (-1), 8, 0, 0, 0), (8, .ireturn, 9, 0, 0, 0), (9, .iload_n 2, 10, 0, 0, 0), (10, .iconst 0, 11, 0, 0, 0), (11, .bipush 10, 13, 0, 0, 0), (13, .invokestatic 74, 16, 140, 0, 0), (16, .ifCond .ne 6, 19, 22, 0, 0), (19, .bipush (-2), 21, 0, 0, 0), (21, .ireturn, 22, 0, 0, 0), (22, .aload_n 0, 23, 0, 0, 0), (23, .getfield 10, 26, 7, 0, 2), (26, .iload_n 1, 27, 0, 0, 0), (27, .invokevirtual 112, 30, 78, 1, 0), (30, .istore_n 3, 31, 0, 0, 0), (31, .aload_n 0, 32, 0, 0, 0), (32, .getfield 10, 35, 7, 0, 2), (35, .iload_n 1, 36, 0, 0, 0), (36, .iload_n 2, 37, 0, 0, 0), (37, .invokevirtual 115, 40, 79, 1, 0), (40, .iload_n 3, 41, 0, 0, 0), (41, .ireturn, 42, 0, 0, 0)]
def tb_F_goals : List (Nat × EN) := tb_F_goals_0
def tb_F_say_0 : List (Nat × EN) := [(0, .iload_n 1, 1, 0, 0, 0), (1, .bipush 33, 3, 0, 0, 0), (3, .bipush 126, 5, 0, 0, 0), (5, .invokestatic 74, 8, 140, 0, 0), (8, .ifCond .ne 6, 11, 14, 0, 0), (11, .bipush (-2), 13, 0, 0, 0), (13, .ireturn, 14, 0, 0, 0), (14, .aload_n 0, 15, 0, 0, 0), (15, .getfield 19, 18, 7, 1, 2), (18, .iload_n 1, 19, 0, 0, 0), (19, .invokevirtual 118, 22, 30, 1, 0), (22, .ifCond .eq 13, 25, 35, 0, 0), (25, .aload_n 0, 26, 0, 0, 0), (26, .getfield 19, 29, 7, 1, 2), (29, .invokevirtual 121, 32, 29, 1, 0), (32, .goto 5, 35, 37, 0, 0), (35, .bipush (-4), 37, 0, 0, 0), (37, .ireturn, 38, 0, 0, 0)]
def tb_F_say : List (Nat × EN) := tb_F_say_0
def tb_F_wipe_0 : List (Nat × EN) := [(0, .aload_n 0, 1, 0, 0, 0), (1, .getfield 19, 4, 7, 1, 2), (4, .invokevirtual 121, 7, 29, 1, 0), (7, .istore_n 1, 8, 0, 0, 0), (8, .aload_n 0, 9, 0, 0, 0), (9, .getfield 19, 12, 7, 1, 2), (12, .invokevirtual 125, 15, 31, 1, 0), (15, .iload_n 1, 16, 0, 0, 0), (16, .ireturn, 17, 0, 0, 0)]
def tb_F_wipe : List (Nat × EN) := tb_F_wipe_0
def tb_F_fault_0 : List (Nat × EN) := [(0, .aload_n 0, 1, 0, 0, 0), (1, .getfield 19, 4, 7, 1, 2), (4, .invokevirtual 128, 7, 37, 1, 0), (7, .ireturn, 8, 0, 0, 0)]
def tb_F_fault : List (Nat × EN) := tb_F_fault_0
def tb_F_judge_0 : List (Nat × EN) := [(0, .iload_n 1, 1, 0, 0, 0), (1, .invokestatic 109, 4, 141, 0, 0), (4, .ifCond .ne 6, 7, 10, 0, 0), (7, .bipush (-2), 9, 0, 0, 0), (9, .ireturn, 10, 0, 0, 0), (10, .aload_n 0, 11, 0, 0, 0), (11, .getfield 19, 14, 7, 1, 2), (14, .invokevirtual 128, 17, 37, 1, 0), (17, .bipush (-6), 19, 0, 0, 0), (19, .if_icmp .eq 6, 22, 25, 0, 0), (22, .bipush (-5), 24, 0, 0, 0), (24, .ireturn, 25, 0, 0, 0), (25, .aload_n 0, 26, 0, 0, 0), (26, .getfield 26, 29, 7, 2, 2), (29, .aload_n 0, 30, 0, 0, 0), (30, .getfield 10, 33, 7, 0, 2), (33, .aload_n 0, 34, 0, 0, 0), (34, .getfield 19, 37, 7, 1, 2), (37, .invokevirtual 131, 40, 19, 1, 0), (40, .iload_n 1, 41, 0, 0, 0), (41, .ifCond .ne 13, 44, 54, 0, 0), (44, .aload_n 0, 45, 0, 0, 0), (45, .getfield 26, 48, 7, 2, 2), (48, .invokevirtual 135, 51, 16, 1, 0), (51, .goto 10, 54, 61, 0, 0), (54, .aload_n 0, 55, 0, 0, 0), (55, .getfield 26, 58, 7, 2, 2), (58, .invokevirtual 138, 61, 17, 1, 0), (61, .ireturn, 62, 0, 0, 0)]
def tb_F_judge : List (Nat × EN) := tb_F_judge_0
def tb_F_done_0 : List (Nat × EN) := [(0, .aload_n 0, 1, 0, 0, 0), (1, .invokevirtual 141, 4, 138, 1, 0), (4, .ifCond .ne 6, 7, 10, 0, 0), (7, .bipush (-5), 9, 0, 0, 0), (9, .ireturn, 10, 0, 0, 0), (10, .aload_n 0, 11, 0, 0, 0), (11, .getfield 10, 14, 7, 0, 2), (14, .aload_n 0, 15, 0, 0, 0), (15, .getfield 26, 18, 7, 2, 2), (18, .invokevirtual 145, 21, 14, 1, 0), (21, .invokevirtual 149, 24, 75, 1, 0), (24, .aload_n 0, 25, 0, 0, 0), (25, .getfield 19, 28, 7, 1, 2), (28, .invokevirtual 125, 31, 31, 1, 0), (31, .aload_n 0, 32, 0, 0, 0), (32, .getfield 26, 35, 7, 2, 2), (35, .invokevirtual 153, 38, 15, 1, 0), (38, .ireturn, 39, 0, 0, 0)]
def tb_F_done : List (Nat × EN) := tb_F_done_0
def tb_F_behind_0 : List (Nat × EN) := [(0, .iload_n 1, 1, 0, 0, 0), (1, .invokestatic 64, 4, 52, 0, 0), (4, .ifCond .ne 5, 7, 9, 0, 0), (7, .iconst (-1), 8, 0, 0, 0), (8, .ireturn, 9, 0, 0, 0), (9, .iload_n 2, 10, 0, 0, 0), (10, .invokestatic 109, 13, 141, 0, 0), (13, .ifCond .ne 6, 16, 19, 0, 0), (16, .bipush (-2), 18, 0, 0, 0), (18, .ireturn, 19, 0, 0, 0), (19, .aload_n 0, 20, 0, 0, 0), (20, .invokevirtual 141, 23, 138, 1, 0), (23, .ifCond .ne 6, 26, 29, 0, 0), (26, .bipush (-5), 28, 0, 0, 0), (28, .ireturn, 29, 0, 0, 0), (29, .iload_n 2, 30, 0, 0, 0), (30, .ifCond .ne 15, 33, 45, 0, 0), (33, .aload_n 0, 34, 0, 0, 0), (34, .getfield 26, 37, 7, 2, 2), (37, .invokevirtual 145, 40, 14, 1, 0), (40, .iload_n 1, 41, 0, 0, 0), (41, .invokevirtual 78, 44, 76, 1, 0), (44, .ireturn, 45, 0, 0, 0), (45, .aload_n 0, 46, 0, 0, 0), (46, .getfield 26, 49, 7, 2, 2), (49, .invokevirtual 145, 52, 14, 1, 0), (52, .iload_n 1, 53, 0, 0, 0), (53, .invokevirtual 88, 56, 82, 1, 0), (56, .ifCond .eq 7, 59, 63, 0, 0), (59, .iconst 1, 60, 0, 0, 0), (60, .goto 4, 63, 64, 0, 0), (63, .iconst 0, 64, 0, 0, 0), (64, .ireturn, 65, 0, 0, 0)]
def tb_F_behind : List (Nat × EN) := tb_F_behind_0
def tb_F_then_0 : List (Nat × EN) := [(0, .iload_n 1, 1, 0, 0, 0), (1, .iconst 0, 2, 0, 0, 0), (2, .bipush 6, 4, 0, 0, 0), (4, .invokestatic 74, 7, 140, 0, 0), (7, .ifCond .ne 6, 10, 13, 0, 0), (10, .bipush (-2), 12, 0, 0, 0), (12, .ireturn, 13, 0, 0, 0), (13, .aload_n 0, 14, 0, 0, 0), (14, .invokevirtual 141, 17, 138, 1, 0), (17, .ifCond .ne 6, 20, 23, 0, 0), (20, .bipush (-5), 22, 0, 0, 0), (22, .ireturn, 23, 0, 0, 0), (23, .aload_n 0, 24, 0, 0, 0), (24, .getfield 26, 27, 7, 2, 2), (27, .invokevirtual 145, 30, 14, 1, 0), (30, .astore_n 2, 31, 0, 0, 0), (31, .iload_n 1, 32, 0, 0, 0), (32, .tableswitch 72 0 5 #[40, 45, 50, 55, 61, 67], 72, 0, 0, 0), (72, .aload_n 2, 73, 0, 0, 0), (73, .invokevirtual 156, 76, 87, 1, 0), (76, .ireturn, 77, 0, 0, 0), (77, .aload_n 2, 78, 0, 0, 0), (78, .invokevirtual 159, 81, 88, 1, 0), (81, .ireturn, 82, 0, 0, 0), (82, .aload_n 2, 83, 0, 0, 0), (83, .invokevirtual 162, 86, 89, 1, 0), (86, .ireturn, 87, 0, 0, 0), (87, .aload_n 2, 88, 0, 0, 0), (88, .iconst 0, 89, 0, 0, 0), (89, .invokevirtual 112, 92, 78, 1, 0), (92, .ireturn, 93, 0, 0, 0), (93, .aload_n 2, 94, 0, 0, 0), (94, .iconst 1, 95, 0, 0, 0), (95, .invokevirtual 112, 98, 78, 1, 0), (98, .ireturn, 99, 0, 0, 0), (99, .aload_n 2, 100, 0, 0, 0), (100, .invokevirtual 165, 103, 85, 1, 0), (103, .ireturn, 104, 0, 0, 0), (104, .aload_n 0, 105, 0, 0, 0), (105, .getfield 26, 108, 7, 2, 2), (108, .invokevirtual 168, 111, 18, 1, 0), (111, .ireturn, 112, 0, 0, 0)]
def tb_F_then : List (Nat × EN) := tb_F_then_0
def tb_F_ends_0 : List (Nat × EN) := [(0, .iload_n 1, 1, 0, 0, 0), (1, .bipush (-9), 3, 0, 0, 0), (3, .bipush 9, 5, 0, 0, 0), (5, .invokestatic 74, 8, 140, 0, 0), (8, .ifCond .ne 6, 11, 14, 0, 0), (11, .bipush (-2), 13, 0, 0, 0), (13, .ireturn, 14, 0, 0, 0), (14, .aload_n 0, 15, 0, 0, 0), (15, .getfield 10, 18, 7, 0, 2), (18, .invokevirtual 171, 21, 86, 1, 0), (21, .ifCond .eq 6, 24, 27, 0, 0), (24, .bipush (-3), 26, 0, 0, 0), (26, .ireturn, 27, 0, 0, 0), (27, .aload_n 0, 28, 0, 0, 0), (28, .getfield 10, 31, 7, 0, 2), (31, .iload_n 1, 32, 0, 0, 0), (32, .invokevirtual 174, 35, 96, 1, 0), (35, .bipush 10, 37, 0, 0, 0), (37, .idiv, 38, 0, 0, 0), (38, .ireturn, 39, 0, 0, 0)]
def tb_F_ends : List (Nat × EN) := tb_F_ends_0
def tb_F_goesIn_0 : List (Nat × EN) := [(0, .aload_n 0, 1, 0, 0, 0), (1, .getfield 10, 4, 7, 0, 2), (4, .invokevirtual 171, 7, 86, 1, 0), (7, .ifCond .eq 6, 10, 13, 0, 0), (10, .bipush (-3), 12, 0, 0, 0), (12, .ireturn, 13, 0, 0, 0), (13, .iconst 0, 14, 0, 0, 0), (14, .istore_n 1, 15, 0, 0, 0), (15, .bipush (-9), 17, 0, 0, 0), (17, .istore_n 2, 18, 0, 0, 0), (18, .iload_n 2, 19, 0, 0, 0), (19, .bipush 9, 21, 0, 0, 0), (21, .if_icmp .gt 29, 24, 50, 0, 0), (24, .aload_n 0, 25, 0, 0, 0), (25, .getfield 10, 28, 7, 0, 2), (28, .iload_n 2, 29, 0, 0, 0), (29, .invokevirtual 174, 32, 96, 1, 0), (32, .bipush 80, 34, 0, 0, 0), (34, .if_icmp .ne 10, 37, 44, 0, 0), (37, .iload_n 1, 38, 0, 0, 0), (38, .iload_n 2, 39, 0, 0, 0), (39, .invokestatic 177, 42, 143, 0, 0), (42, .ior, 43, 0, 0, 0), (43, .istore_n 1, 44, 0, 0, 0), (44, .iinc 2 1, 47, 0, 0, 0), (47, .goto (-29), 50, 18, 0, 0), (50, .iload_n 1, 51, 0, 0, 0), (51, .ireturn, 52, 0, 0, 0)]
def tb_F_goesIn : List (Nat × EN) := tb_F_goesIn_0
def tb_F_path_0 : List (Nat × EN) := [(0, .iload_n 1, 1, 0, 0, 0), (1, .iload_n 2, 2, 0, 0, 0), (2, .invokestatic 101, 5, 53, 0, 0), (5, .ifCond .ne 5, 8, 10, 0, 0), (8, .iconst (-1), 9, 0, 0, 0), (9, .ireturn, 10, 0, 0, 0), (10, .iload_n 3, 11, 0, 0, 0), (11, .invokestatic 109, 14, 141, 0, 0), (14, .ifCond .ne 6, 17, 20, 0, 0), (17, .bipush (-2), 19, 0, 0, 0), (19, .ireturn, 20, 0, 0, 0), (20, .aload_n 0, 21, 0, 0, 0), (21, .getfield 10, 24, 7, 0, 2), (24, .invokevirtual 171, 27, 86, 1, 0), (27, .ifCond .eq 6, 30, 33, 0, 0), (30, .bipush (-3), 32, 0, 0, 0), (32, .ireturn, 33, 0, 0, 0), (33, .iload_n 1, 34, 0, 0, 0), (34, .invokestatic 85, 37, 54, 0, 0), (37, .aload_n 0, 38, 0, 0, 0), (38, .getfield 10, 41, 7, 0, 2), (41, .invokevirtual 156, 44, 87, 1, 0), (44, .invokestatic 85, 47, 54, 0, 0), (47, .if_icmp .eq 6, 50, 53, 0, 0), (50, .bipush (-6), 52, 0, 0, 0), (52, .ireturn, 53, 0, 0, 0), (53, .aload_n 0, 54, 0, 0, 0), (54, .getfield 33, 57, 7, 3, 2), (57, .aload_n 0, 58, 0, 0, 0), (58, .getfield 10, 61, 7, 0, 2), (61, .bipush 10, 63, 0, 0, 0), (63, .iload_n 1, 64, 0, 0, 0), (64, .imul, 65, 0, 0, 0), (65, .iload_n 2, 66, 0, 0, 0), (66, .iadd, 67, 0, 0, 0), (67, .invokevirtual 180, 70, 47, 1, 0), (70, .bipush 10, 72, 0, 0, 0), (72, .aload_n 0, 73, 0, 0, 0), (73, .getfield 10, 76, 7, 0, 2), (76, .invokevirtual 156, 79, 87, 1, 0), (79, .imul, 80, 0, 0, 0), (80, .aload_n 0, 81, 0, 0, 0), (81, .getfield 10, 84, 7, 0, 2), (84, .invokevirtual 159, 87, 88, 1, 0), (87, .iadd, 88, 0, 0, 0), (88, .istore 4, 90, 0, 0, 0), (90, .iload_n 3, 91, 0, 0, 0), (91, .ifCond .ne 15, 94, 106, 0, 0), (94, .aload_n 0, 95, 0, 0, 0), (95, .getfield 33, 98, 7, 3, 2), (98, .iload 4, 100, 0, 0, 0), (100, .invokevirtual 184, 103, 46, 1, 0), (103, .goto 16, 106, 119, 0, 0), (106, .aload_n 0, 107, 0, 0, 0), (107, .getfield 33, 110, 7, 3, 2), (110, .aload_n 0, 111, 0, 0, 0), (111, .getfield 10, 114, 7, 0, 2), (114, .iload 4, 116, 0, 0, 0), (116, .invokevirtual 187, 119, 49, 1, 0), (119, .ireturn, 120, 0, 0, 0)]
def tb_F_path : List (Nat × EN) := tb_F_path_0
def tb_F_stand_0 : List (Nat × EN) := [(0, .iload_n 1, 1, 0, 0, 0), (1, .invokestatic 109, 4, 141, 0, 0), (4, .ifCond .ne 6, 7, 10, 0, 0), (7, .bipush (-2), 9, 0, 0, 0), (9, .ireturn, 10, 0, 0, 0), (10, .aload_n 0, 11, 0, 0, 0), (11, .getfield 10, 14, 7, 0, 2), (14, .invokevirtual 171, 17, 86, 1, 0), (17, .ifCond .eq 6, 20, 23, 0, 0), (20, .bipush (-3), 22, 0, 0, 0), (22, .ireturn, 23, 0, 0, 0), (23, .aload_n 0, 24, 0, 0, 0), (24, .getfield 40, 27, 7, 4, 2), (27, .aload_n 0, 28, 0, 0, 0), (28, .getfield 10, 31, 7, 0, 2), (31, .invokevirtual 191, 34, 10, 1, 0), (34, .iload_n 1, 35, 0, 0, 0), (35, .ifCond .ne 13, 38, 48, 0, 0), (38, .aload_n 0, 39, 0, 0, 0), (39, .getfield 40, 42, 7, 4, 2), (42, .invokevirtual 194, 45, 8, 1, 0), (45, .goto 10, 48, 55, 0, 0), (48, .aload_n 0, 49, 0, 0, 0), (49, .getfield 40, 52, 7, 4, 2), (52, .invokevirtual 197, 55, 9, 1, 0), (55, .ireturn, 56, 0, 0, 0)]
def tb_F_stand : List (Nat × EN) := tb_F_stand_0
def tb_F_mix_0 : List (Nat × EN) := [(0, .iload_n 1, 1, 0, 0, 0), (1, .invokestatic 200, 4, 142, 0, 0), (4, .ifCond .eq 25, 7, 29, 0, 0), (7, .iload_n 2, 8, 0, 0, 0), (8, .invokestatic 200, 11, 142, 0, 0), (11, .ifCond .eq 18, 14, 29, 0, 0), (14, .iload_n 3, 15, 0, 0, 0), (15, .invokestatic 200, 18, 142, 0, 0), (18, .ifCond .eq 11, 21, 29, 0, 0), (21, .iload 4, 23, 0, 0, 0), (23, .invokestatic 200, 26, 142, 0, 0), (26, .ifCond .ne 7, 29, 33, 0, 0), (29, .ldc2_w 203, 32, 0, 0, -1000000000000000002), (32, .lreturn, 33, 0, 0, 0), (33, .iload 5, 35, 0, 0, 0), (35, .invokestatic 109, 38, 141, 0, 0), (38, .ifCond .eq 11, 41, 49, 0, 0), (41, .iload 6, 43, 0, 0, 0), (43, .invokestatic 109, 46, 141, 0, 0), (46, .ifCond .ne 7, 49, 53, 0, 0), (49, .ldc2_w 203, 52, 0, 0, -1000000000000000002), (52, .lreturn, 53, 0, 0, 0), (53, .iload_n 1, 54, 0, 0, 0), (54, .iload_n 2, 55, 0, 0, 0), (55, .iload_n 3, 56, 0, 0, 0), (56, .iload 4, 58, 0, 0, 0), (58, .iload 5, 60, 0, 0, 0), (60, .iload 6, 62, 0, 0, 0), (62, .invokestatic 205, 65, 2, 0, 0), (65, .lreturn, 66, 0, 0, 0)]
def tb_F_mix : List (Nat × EN) := tb_F_mix_0
def tb_F_hands_0 : List (Nat × EN) := [(0, .iload_n 2, 1, 0, 0, 0), (1, .iconst 1, 2, 0, 0, 0), (2, .bipush 9, 4, 0, 0, 0), (4, .invokestatic 74, 7, 140, 0, 0), (7, .ifCond .eq 11, 10, 18, 0, 0), (10, .iload_n 1, 11, 0, 0, 0), (11, .iload_n 2, 12, 0, 0, 0), (12, .invokestatic 211, 15, 20, 0, 0), (15, .ifCond .ne 6, 18, 21, 0, 0), (18, .bipush (-2), 20, 0, 0, 0), (20, .ireturn, 21, 0, 0, 0), (21, .iload_n 1, 22, 0, 0, 0), (22, .iload_n 2, 23, 0, 0, 0), (23, .invokestatic 216, 26, 21, 0, 0), (26, .ireturn, 27, 0, 0, 0)]
def tb_F_hands : List (Nat × EN) := tb_F_hands_0
def tb_F_truly_0 : List (Nat × EN) := [(0, .iload_n 1, 1, 0, 0, 0), (1, .invokestatic 200, 4, 142, 0, 0), (4, .ifCond .eq 18, 7, 22, 0, 0), (7, .iload_n 2, 8, 0, 0, 0), (8, .invokestatic 200, 11, 142, 0, 0), (11, .ifCond .eq 11, 14, 22, 0, 0), (14, .iload 5, 16, 0, 0, 0), (16, .invokestatic 109, 19, 141, 0, 0), (19, .ifCond .ne 7, 22, 26, 0, 0), (22, .ldc2_w 203, 25, 0, 0, -1000000000000000002), (25, .lreturn, 26, 0, 0, 0), (26, .iload_n 3, 27, 0, 0, 0), (27, .iconst 0, 28, 0, 0, 0), (28, .bipush 16, 30, 0, 0, 0), (30, .invokestatic 74, 33, 140, 0, 0), (33, .ifCond .eq 13, 36, 46, 0, 0), (36, .iload 4, 38, 0, 0, 0), (38, .iconst 0, 39, 0, 0, 0), (39, .iload_n 3, 40, 0, 0, 0), (40, .invokestatic 74, 43, 140, 0, 0), (43, .ifCond .ne 7, 46, 50, 0, 0), (46, .ldc2_w 203, 49, 0, 0, -1000000000000000002), (49, .lreturn, 50, 0, 0, 0), (50, .iload_n 1, 51, 0, 0, 0), (51, .iload_n 2, 52, 0, 0, 0), (52, .iload_n 3, 53, 0, 0, 0), (53, .iload 4, 55, 0, 0, 0), (55, .iload 5, 57, 0, 0, 0), (57, .invokestatic 220, 60, 4, 0, 0), (60, .lreturn, 61, 0, 0, 0)]
def tb_F_truly : List (Nat × EN) := tb_F_truly_0
def tb_F_race_0 : List (Nat × EN) := [(0, .iload_n 1, 1, 0, 0, 0), (1, .iconst 0, 2, 0, 0, 0), (2, .bipush 9, 4, 0, 0, 0), (4, .invokestatic 74, 7, 140, 0, 0), (7, .ifCond .eq 13, 10, 20, 0, 0), (10, .iload_n 2, 11, 0, 0, 0), (11, .iconst 0, 12, 0, 0, 0), (12, .bipush 9, 14, 0, 0, 0), (14, .invokestatic 74, 17, 140, 0, 0), (17, .ifCond .ne 7, 20, 24, 0, 0), (20, .ldc2_w 203, 23, 0, 0, -1000000000000000002), (23, .lreturn, 24, 0, 0, 0), (24, .iload_n 3, 25, 0, 0, 0), (25, .invokestatic 200, 28, 142, 0, 0), (28, .ifCond .eq 11, 31, 39, 0, 0), (31, .iload 4, 33, 0, 0, 0), (33, .invokestatic 109, 36, 141, 0, 0), (36, .ifCond .ne 7, 39, 43, 0, 0), (39, .ldc2_w 203, 42, 0, 0, -1000000000000000002), (42, .lreturn, 43, 0, 0, 0), (43, .iload_n 1, 44, 0, 0, 0), (44, .ifCond .ne 11, 47, 55, 0, 0), (47, .iload_n 2, 48, 0, 0, 0), (48, .ifCond .ne 7, 51, 55, 0, 0), (51, .ldc2_w 224, 54, 0, 0, -1000000000000000003), (54, .lreturn, 55, 0, 0, 0), (55, .bipush 10, 57, 0, 0, 0), (57, .iload_n 1, 58, 0, 0, 0), (58, .isub, 59, 0, 0, 0), (59, .bipush 10, 61, 0, 0, 0), (61, .iload_n 2, 62, 0, 0, 0), (62, .isub, 63, 0, 0, 0), (63, .iload_n 3, 64, 0, 0, 0), (64, .iload 4, 66, 0, 0, 0), (66, .invokestatic 226, 69, 5, 0, 0), (69, .lreturn, 70, 0, 0, 0)]
def tb_F_race : List (Nat × EN) := tb_F_race_0
def tb_F_seen_0 : List (Nat × EN) := [(0, .iload_n 1, 1, 0, 0, 0), (1, .iconst 0, 2, 0, 0, 0), (2, .bipush 60, 4, 0, 0, 0), (4, .invokestatic 74, 7, 140, 0, 0), (7, .ifCond .ne 6, 10, 13, 0, 0), (10, .bipush (-2), 12, 0, 0, 0), (12, .ireturn, 13, 0, 0, 0), (13, .aload_n 0, 14, 0, 0, 0), (14, .getfield 47, 17, 7, 5, 2), (17, .iload_n 1, 18, 0, 0, 0), (18, .iload_n 2, 19, 0, 0, 0), (19, .invokevirtual 230, 22, 64, 1, 0), (22, .ifCond .eq 13, 25, 35, 0, 0), (25, .aload_n 0, 26, 0, 0, 0), (26, .getfield 47, 29, 7, 5, 2), (29, .invokevirtual 233, 32, 63, 1, 0), (32, .goto 5, 35, 37, 0, 0), (35, .bipush (-4), 37, 0, 0, 0), (37, .ireturn, 38, 0, 0, 0)]
def tb_F_seen : List (Nat × EN) := tb_F_seen_0
def tb_F_forget_0 : List (Nat × EN) := [(0, .aload_n 0, 1, 0, 0, 0), (1, .getfield 47, 4, 7, 5, 2), (4, .invokevirtual 233, 7, 63, 1, 0), (7, .istore_n 1, 8, 0, 0, 0), (8, .aload_n 0, 9, 0, 0, 0), (9, .getfield 47, 12, 7, 5, 2), (12, .invokevirtual 234, 15, 65, 1, 0), (15, .iload_n 1, 16, 0, 0, 0), (16, .ireturn, 17, 0, 0, 0)]
def tb_F_forget : List (Nat × EN) := tb_F_forget_0
def tb_F_fits_0 : List (Nat × EN) := [(0, .aload_n 0, 1, 0, 0, 0), (1, .getfield 47, 4, 7, 5, 2), (4, .invokevirtual 235, 7, 67, 1, 0), (7, .istore_n 2, 8, 0, 0, 0), (8, .iload_n 1, 9, 0, 0, 0), (9, .iconst (-1), 10, 0, 0, 0), (10, .if_icmp .ne 7, 13, 17, 0, 0), (13, .iload_n 2, 14, 0, 0, 0), (14, .goto 11, 17, 25, 0, 0), (17, .aload_n 0, 18, 0, 0, 0), (18, .getfield 47, 21, 7, 5, 2), (21, .iload_n 1, 22, 0, 0, 0), (22, .invokevirtual 238, 25, 68, 1, 0), (25, .ireturn, 26, 0, 0, 0)]
def tb_F_fits : List (Nat × EN) := tb_F_fits_0
def tb_F_ask_0 : List (Nat × EN) := [(0, .iload_n 1, 1, 0, 0, 0), (1, .invokestatic 109, 4, 141, 0, 0), (4, .ifCond .ne 6, 7, 10, 0, 0), (7, .bipush (-2), 9, 0, 0, 0), (9, .ireturn, 10, 0, 0, 0), (10, .aload_n 0, 11, 0, 0, 0), (11, .getfield 47, 14, 7, 5, 2), (14, .invokevirtual 235, 17, 67, 1, 0), (17, .ifCond .ne 6, 20, 23, 0, 0), (20, .bipush (-6), 22, 0, 0, 0), (22, .ireturn, 23, 0, 0, 0), (23, .aload_n 0, 24, 0, 0, 0), (24, .getfield 47, 27, 7, 5, 2), (27, .invokevirtual 241, 30, 69, 1, 0), (30, .istore_n 2, 31, 0, 0, 0), (31, .iload_n 1, 32, 0, 0, 0), (32, .ifCond .ne 7, 35, 39, 0, 0), (35, .iload_n 2, 36, 0, 0, 0), (36, .goto 11, 39, 47, 0, 0), (39, .aload_n 0, 40, 0, 0, 0), (40, .getfield 47, 43, 7, 5, 2), (43, .iload_n 2, 44, 0, 0, 0), (44, .invokevirtual 244, 47, 70, 1, 0), (47, .ireturn, 48, 0, 0, 0)]
def tb_F_ask : List (Nat × EN) := tb_F_ask_0
def tb_F_year_0 : List (Nat × EN) := [(0, .iload_n 1, 1, 0, 0, 0), (1, .iconst 0, 2, 0, 0, 0), (2, .sipush 9999, 5, 0, 0, 0), (5, .invokestatic 74, 8, 140, 0, 0), (8, .ifCond .eq 22, 11, 30, 0, 0), (11, .iload_n 2, 12, 0, 0, 0), (12, .iconst 1, 13, 0, 0, 0), (13, .bipush 99, 15, 0, 0, 0), (15, .invokestatic 74, 18, 140, 0, 0), (18, .ifCond .eq 12, 21, 30, 0, 0), (21, .iload_n 3, 22, 0, 0, 0), (22, .iconst 0, 23, 0, 0, 0), (23, .iconst 2, 24, 0, 0, 0), (24, .invokestatic 74, 27, 140, 0, 0), (27, .ifCond .ne 6, 30, 33, 0, 0), (30, .bipush (-2), 32, 0, 0, 0), (32, .ireturn, 33, 0, 0, 0), (33, .aload_n 0, 34, 0, 0, 0), (34, .getfield 61, 37, 7, 8, 2), (37, .aload_n 0, 38, 0, 0, 0), (38, .getfield 10, 41, 7, 0, 2), (41, .invokevirtual 149, 44, 75, 1, 0), (44, .iload_n 1, 45, 0, 0, 0), (45, .istore 4, 47, 0, 0, 0), (47, .iconst 0, 48, 0, 0, 0), (48, .istore 5, 50, 0, 0, 0), (50, .iload 5, 52, 0, 0, 0), (52, .iload_n 2, 53, 0, 0, 0), (53, .if_icmp .ge 31, 56, 84, 0, 0), (56, .bipush 75, 58, 0, 0, 0), (58, .iload 4, 60, 0, 0, 0), (60, .imul, 61, 0, 0, 0), (61, .bipush 74, 63, 0, 0, 0), (63, .iadd, 64, 0, 0, 0), (64, .ldc 247, 66, 0, 0, 65537), (66, .irem, 67, 0, 0, 0), (67, .istore 4, 69, 0, 0, 0), (69, .aload_n 0, 70, 0, 0, 0), (70, .getfield 61, 73, 7, 8, 2), (73, .iload 4, 75, 0, 0, 0), (75, .invokevirtual 248, 78, 107, 1, 0), (78, .iinc 5 1, 81, 0, 0, 0), (81, .goto (-31), 84, 50, 0, 0), (84, .iload_n 3, 85, 0, 0, 0), (85, .lookupswitch 43 #[(0, 27), (1, 35)], 112, 0, 0, 0), (112, .aload_n 0, 113, 0, 0, 0), (113, .getfield 61, 116, 7, 8, 2), (116, .invokevirtual 251, 119, 80, 1, 0), (119, .ireturn, 120, 0, 0, 0), (120, .aload_n 0, 121, 0, 0, 0), (121, .getfield 61, 124, 7, 8, 2), (124, .invokevirtual 165, 127, 85, 1, 0), (127, .ireturn, 128, 0, 0, 0), (128, .aload_n 0, 129, 0, 0, 0), (129, .getfield 61, 132, 7, 8, 2), (132, .invokevirtual 156, 135, 87, 1, 0), (135, .ireturn, 136, 0, 0, 0)]
def tb_F_year : List (Nat × EN) := tb_F_year_0
def tb_F_image_0 : List (Nat × EN) := [(0, .iload_n 1, 1, 0, 0, 0), (1, .invokestatic 109, 4, 141, 0, 0), (4, .ifCond .ne 6, 7, 10, 0, 0), (7, .bipush (-2), 9, 0, 0, 0), (9, .ireturn, 10, 0, 0, 0), (10, .aload_n 0, 11, 0, 0, 0), (11, .iload_n 1, 12, 0, 0, 0), (12, .invokevirtual 254, 15, 139, 1, 0), (15, .aload_n 0, 16, 0, 0, 0), (16, .getfield 10, 19, 7, 0, 2), (19, .aload_n 0, 20, 0, 0, 0), (20, .getfield 47, 23, 7, 5, 2), (23, .invokevirtual 258, 26, 26, 1, 0), (26, .iconst 1, 27, 0, 0, 0), (27, .ireturn, 28, 0, 0, 0)]
def tb_F_image : List (Nat × EN) := tb_F_image_0
def tb_F_restore_0 : List (Nat × EN) := [(0, .iload_n 1, 1, 0, 0, 0), (1, .invokestatic 109, 4, 141, 0, 0), (4, .ifCond .ne 6, 7, 10, 0, 0), (7, .bipush (-2), 9, 0, 0, 0), (9, .ireturn, 10, 0, 0, 0), (10, .aload_n 0, 11, 0, 0, 0), (11, .iload_n 1, 12, 0, 0, 0), (12, .invokevirtual 254, 15, 139, 1, 0), (15, .aload_n 0, 16, 0, 0, 0), (16, .getfield 10, 19, 7, 0, 2), (19, .aload_n 0, 20, 0, 0, 0), (20, .getfield 47, 23, 7, 5, 2), (23, .invokevirtual 262, 26, 27, 1, 0), (26, .ifCond .eq 7, 29, 33, 0, 0), (29, .iconst 1, 30, 0, 0, 0), (30, .goto 5, 33, 35, 0, 0), (33, .bipush (-3), 35, 0, 0, 0), (35, .ireturn, 36, 0, 0, 0)]
def tb_F_restore : List (Nat × EN) := tb_F_restore_0
def tb_F_told_0 : List (Nat × EN) := [(0, .iload_n 1, 1, 0, 0, 0), (1, .tableswitch 87 0 5 #[39, 47, 55, 63, 71, 79], 40, 0, 0, 0), (40, .aload_n 0, 41, 0, 0, 0), (41, .getfield 19, 44, 7, 1, 2), (44, .invokevirtual 121, 47, 29, 1, 0), (47, .ireturn, 48, 0, 0, 0), (48, .aload_n 0, 49, 0, 0, 0), (49, .getfield 10, 52, 7, 0, 2), (52, .invokevirtual 266, 55, 81, 1, 0), (55, .ireturn, 56, 0, 0, 0), (56, .aload_n 0, 57, 0, 0, 0), (57, .getfield 10, 60, 7, 0, 2), (60, .invokevirtual 156, 63, 87, 1, 0), (63, .ireturn, 64, 0, 0, 0), (64, .aload_n 0, 65, 0, 0, 0), (65, .getfield 10, 68, 7, 0, 2), (68, .invokevirtual 159, 71, 88, 1, 0), (71, .ireturn, 72, 0, 0, 0), (72, .aload_n 0, 73, 0, 0, 0), (73, .getfield 10, 76, 7, 0, 2), (76, .invokevirtual 165, 79, 85, 1, 0), (79, .ireturn, 80, 0, 0, 0), (80, .aload_n 0, 81, 0, 0, 0), (81, .getfield 47, 84, 7, 5, 2), (84, .invokevirtual 233, 87, 63, 1, 0), (87, .ireturn, 88, 0, 0, 0), (88, .aload_n 0, 89, 0, 0, 0), (89, .iload_n 1, 90, 0, 0, 0), (90, .invokevirtual 269, 93, 137, 1, 0), (93, .ireturn, 94, 0, 0, 0)]
def tb_F_told : List (Nat × EN) := tb_F_told_0
def tb_F_toldByNumber_0 : List (Nat × EN) := [(0, .iload_n 1, 1, 0, 0, 0), (1, .bipush 10, 3, 0, 0, 0), (3, .bipush 11, 5, 0, 0, 0), (5, .invokestatic 74, 8, 140, 0, 0), (8, .ifCond .eq 15, 11, 23, 0, 0), (11, .aload_n 0, 12, 0, 0, 0), (12, .getfield 10, 15, 7, 0, 2), (15, .iload_n 1, 16, 0, 0, 0), (16, .bipush 10, 18, 0, 0, 0), (18, .isub, 19, 0, 0, 0), (19, .invokevirtual 112, 22, 78, 1, 0), (22, .ireturn, 23, 0, 0, 0), (23, .iload_n 1, 24, 0, 0, 0), (24, .bipush 20, 26, 0, 0, 0), (26, .bipush 27, 28, 0, 0, 0), (28, .invokestatic 74, 31, 140, 0, 0), (31, .ifCond .eq 15, 34, 46, 0, 0), (34, .aload_n 0, 35, 0, 0, 0), (35, .getfield 10, 38, 7, 0, 2), (38, .iload_n 1, 39, 0, 0, 0), (39, .bipush 20, 41, 0, 0, 0), (41, .isub, 42, 0, 0, 0), (42, .invokevirtual 78, 45, 76, 1, 0), (45, .ireturn, 46, 0, 0, 0), (46, .iload_n 1, 47, 0, 0, 0), (47, .bipush 100, 49, 0, 0, 0), (49, .sipush 179, 52, 0, 0, 0), (52, .invokestatic 74, 55, 140, 0, 0), (55, .ifCond .ne 6, 58, 61, 0, 0), (58, .bipush (-2), 60, 0, 0, 0), (60, .ireturn, 61, 0, 0, 0), (61, .iload_n 1, 62, 0, 0, 0), (62, .bipush 100, 64, 0, 0, 0), (64, .isub, 65, 0, 0, 0), (65, .bipush 10, 67, 0, 0, 0), (67, .idiv, 68, 0, 0, 0), (68, .istore_n 2, 69, 0, 0, 0), (69, .iload_n 1, 70, 0, 0, 0), (70, .bipush 100, 72, 0, 0, 0), (72, .isub, 73, 0, 0, 0), (73, .bipush 10, 75, 0, 0, 0), (75, .irem, 76, 0, 0, 0), (76, .istore_n 3, 77, 0, 0, 0), (77, .iload_n 2, 78, 0, 0, 0), (78, .iload_n 3, 79, 0, 0, 0), (79, .invokestatic 101, 82, 53, 0, 0), (82, .ifCond .eq 15, 85, 97, 0, 0), (85, .aload_n 0, 86, 0, 0, 0), (86, .getfield 10, 89, 7, 0, 2), (89, .iload_n 2, 90, 0, 0, 0), (90, .iload_n 3, 91, 0, 0, 0), (91, .invokevirtual 272, 94, 92, 1, 0), (94, .goto 5, 97, 99, 0, 0), (97, .bipush (-2), 99, 0, 0, 0), (99, .ireturn, 100, 0, 0, 0)]
def tb_F_toldByNumber : List (Nat × EN) := tb_F_toldByNumber_0
def tb_F_playsThrough_0 : List (Nat × EN) := [(0, .aload_n 0, 1, 0, 0, 0), (1, .getfield 19, 4, 7, 1, 2), (4, .invokevirtual 128, 7, 37, 1, 0), (7, .bipush (-6), 9, 0, 0, 0), (9, .if_icmp .eq 5, 12, 14, 0, 0), (12, .iconst 0, 13, 0, 0, 0), (13, .ireturn, 14, 0, 0, 0), (14, .aload_n 0, 15, 0, 0, 0), (15, .getfield 26, 18, 7, 2, 2), (18, .aload_n 0, 19, 0, 0, 0), (19, .getfield 10, 22, 7, 0, 2), (22, .aload_n 0, 23, 0, 0, 0), (23, .getfield 19, 26, 7, 1, 2), (26, .invokevirtual 131, 29, 19, 1, 0), (29, .aload_n 0, 30, 0, 0, 0), (30, .getfield 26, 33, 7, 2, 2), (33, .invokevirtual 135, 36, 16, 1, 0), (36, .bipush (-6), 38, 0, 0, 0), (38, .if_icmp .ne 7, 41, 45, 0, 0), (41, .iconst 1, 42, 0, 0, 0), (42, .goto 4, 45, 46, 0, 0), (45, .iconst 0, 46, 0, 0, 0), (46, .ireturn, 47, 0, 0, 0)]
def tb_F_playsThrough : List (Nat × EN) := tb_F_playsThrough_0
def tb_F_imageOf_0 : List (Nat × EN) := [(0, .iload_n 1, 1, 0, 0, 0), (1, .ifCond .ne 10, 4, 11, 0, 0), (4, .aload_n 0, 5, 0, 0, 0), (5, .getfield 54, 8, 7, 6, 2), (8, .goto 7, 11, 15, 0, 0), (11, .aload_n 0, 12, 0, 0, 0), (12, .getfield 58, 15, 7, 7, 2), (15, .areturn, 16, 0, 0, 0)]
def tb_F_imageOf : List (Nat × EN) := tb_F_imageOf_0
def tb_F_isWithin_0 : List (Nat × EN) := [(0, .iload_n 0, 1, 0, 0, 0), (1, .iload_n 1, 2, 0, 0, 0), (2, .if_icmp .lt 12, 5, 14, 0, 0), (5, .iload_n 0, 6, 0, 0, 0), (6, .iload_n 2, 7, 0, 0, 0), (7, .if_icmp .gt 7, 10, 14, 0, 0), (10, .iconst 1, 11, 0, 0, 0), (11, .goto 4, 14, 15, 0, 0), (14, .iconst 0, 15, 0, 0, 0), (15, .ireturn, 16, 0, 0, 0)]
def tb_F_isWithin : List (Nat × EN) := tb_F_isWithin_0
def tb_F_isBit_0 : List (Nat × EN) := [(0, .iload_n 0, 1, 0, 0, 0), (1, .ifCond .eq 8, 4, 9, 0, 0), (4, .iload_n 0, 5, 0, 0, 0), (5, .iconst 1, 6, 0, 0, 0), (6, .if_icmp .ne 7, 9, 13, 0, 0), (9, .iconst 1, 10, 0, 0, 0), (10, .goto 4, 13, 14, 0, 0), (13, .iconst 0, 14, 0, 0, 0), (14, .ireturn, 15, 0, 0, 0)]
def tb_F_isBit : List (Nat × EN) := tb_F_isBit_0
def tb_F_isTenths_0 : List (Nat × EN) := [(0, .iload_n 0, 1, 0, 0, 0), (1, .iconst 0, 2, 0, 0, 0), (2, .bipush 10, 4, 0, 0, 0), (4, .invokestatic 74, 7, 140, 0, 0), (7, .ireturn, 8, 0, 0, 0)]
def tb_F_isTenths : List (Nat × EN) := tb_F_isTenths_0
def tb_F_shotBit_0 : List (Nat × EN) := [(0, .iconst 1, 1, 0, 0, 0), (1, .iload_n 0, 2, 0, 0, 0), (2, .bipush 9, 4, 0, 0, 0), (4, .iadd, 5, 0, 0, 0), (5, .ishl, 6, 0, 0, 0), (6, .ireturn, 7, 0, 0, 0)]
def tb_F_shotBit : List (Nat × EN) := tb_F_shotBit_0
def tb_F_copyRow_0 : List (Nat × EN) := [(0, .aload_n 0, 1, 0, 0, 0), (1, .ifnull 7, 4, 8, 0, 0), (4, .aload_n 1, 5, 0, 0, 0), (5, .ifnonnull 4, 8, 9, 0, 0), (8, .return_, 9, 0, 0, 0), (9, .iconst 0, 10, 0, 0, 0), (10, .istore_n 2, 11, 0, 0, 0), (11, .iload_n 2, 12, 0, 0, 0), (12, .aload_n 0, 13, 0, 0, 0), (13, .arraylength, 14, 0, 0, 0), (14, .if_icmp .ge 21, 17, 35, 0, 0), (17, .iload_n 2, 18, 0, 0, 0), (18, .aload_n 1, 19, 0, 0, 0), (19, .arraylength, 20, 0, 0, 0), (20, .if_icmp .ge 15, 23, 35, 0, 0), (23, .aload_n 1, 24, 0, 0, 0), (24, .iload_n 2, 25, 0, 0, 0), (25, .aload_n 0, 26, 0, 0, 0), (26, .iload_n 2, 27, 0, 0, 0), (27, .iaload, 28, 0, 0, 0), (28, .iastore, 29, 0, 0, 0), (29, .iinc 2 1, 32, 0, 0, 0), (32, .goto (-21), 35, 11, 0, 0), (35, .return_, 36, 0, 0, 0)]
def tb_F_copyRow : List (Nat × EN) := tb_F_copyRow_0
def tb_M_init_0 : List (Nat × EN) := [(0, .aload_n 0, 1, 0, 0, 0), (1, .invokespecial 1, 4, 0, 5, 0), (4, .aload_n 0, 5, 0, 0, 0), (5, .bipush 21, 7, 0, 0, 0), (7, .newarray .int, 9, 0, 0, 0), (9, .putfield 7, 12, 8, 0, 2), (12, .aload_n 0, 13, 0, 0, 0), (13, .bipush 21, 15, 0, 0, 0), (15, .newarray .int, 17, 0, 0, 0), (17, .putfield 13, 20, 8, 1, 2), (20, .aload_n 0, 21, 0, 0, 0), (21, .bipush 16, 23, 0, 0, 0), (23, .newarray .int, 25, 0, 0, 0), (25, .putfield 16, 28, 8, 3, 2), (28, .aload_n 0, 29, 0, 0, 0), (29, .bipush 60, 31, 0, 0, 0), (31, .newarray .int, 33, 0, 0, 0), (33, .putfield 19, 36, 8, 5, 2), (36, .aload_n 0, 37, 0, 0, 0), (37, .bipush 40, 39, 0, 0, 0), (39, .newarray .int, 41, 0, 0, 0), (41, .putfield 22, 44, 8, 12, 2), (44, .aload_n 0, 45, 0, 0, 0), (45, .bipush 16, 47, 0, 0, 0), (47, .newarray .int, 49, 0, 0, 0), (49, .putfield 25, 52, 8, 13, 2), (52, .aload_n 0, 53, 0, 0, 0), (53, .bipush 16, 55, 0, 0, 0), (55, .newarray .int, 57, 0, 0, 0), (57, .putfield 28, 60, 8, 14, 2), (60, .aload_n 0, 61, 0, 0, 0), (61, .bipush 121, 63, 0, 0, 0), (63, .newarray .long, 65, 0, 0, 0), (65, .putfield 31, 68, 8, 15, 2), (68, .aload_n 0, 69, 0, 0, 0), (69, .bipush 80, 71, 0, 0, 0), (71, .newarray .int, 73, 0, 0, 0), (73, .putfield 35, 76, 8, 16, 2), (76, .aload_n 0, 77, 0, 0, 0), (77, .iconst 2, 78, 0, 0, 0), (78, .newarray .boolean, 80, 0, 0, 0), (80, .putfield 38, 83, 8, 17, 2), (83, .iconst 0, 84, 0, 0, 0), (84, .istore_n 1, 85, 0, 0, 0), (85, .iload_n 1, 86, 0, 0, 0), (86, .bipush 8, 88, 0, 0, 0), (88, .if_icmp .ge 21, 91, 109, 0, 0), (91, .aload_n 0, 92, 0, 0, 0), (92, .getfield 7, 95, 8, 0, 2), (95, .iload_n 1, 96, 0, 0, 0), (96, .iload_n 1, 97, 0, 0, 0), (97, .invokestatic 42, 100, 153, 0, 0), (100, .iconst 2, 101, 0, 0, 0), (101, .idiv, 102, 0, 0, 0), (102, .iastore, 103, 0, 0, 0), (103, .iinc 1 1, 106, 0, 0, 0), (106, .goto (-21), 109, 85, 0, 0), (109, .aload_n 0, 110, 0, 0, 0), (110, .getfield 7, 113, 8, 0, 2), (113, .bipush 16, 115, 0, 0, 0)]
def tb_M_init_1 : List (Nat × EN) := [(115, .bipush (-6), 117, 0, 0, 0), (117, .iastore, 118, 0, 0, 0), (118, .aload_n 0, 119, 0, 0, 0), (119, .getfield 7, 122, 8, 0, 2), (122, .bipush 17, 124, 0, 0, 0), (124, .bipush (-6), 126, 0, 0, 0), (126, .iastore, 127, 0, 0, 0), (127, .return_, 128, 0, 0, 0)]
def tb_M_init : List (Nat × EN) := tb_M_init_0 ++ tb_M_init_1
def tb_M_in_0 : List (Nat × EN) := [(0, .iload_n 0, 1, 0, 0, 0), (1, .iload_n 1, 2, 0, 0, 0), (2, .if_icmp .lt 12, 5, 14, 0, 0), (5, .iload_n 0, 6, 0, 0, 0), (6, .iload_n 2, 7, 0, 0, 0), (7, .if_icmp .gt 7, 10, 14, 0, 0), (10, .iconst 1, 11, 0, 0, 0), (11, .goto 4, 14, 15, 0, 0), (14, .iconst 0, 15, 0, 0, 0), (15, .ireturn, 16, 0, 0, 0)]
def tb_M_in : List (Nat × EN) := tb_M_in_0
def tb_M_bits_0 : List (Nat × EN) := [(0, .iconst 0, 1, 0, 0, 0), (1, .istore_n 1, 2, 0, 0, 0), (2, .iconst 0, 3, 0, 0, 0), (3, .istore_n 2, 4, 0, 0, 0), (4, .iload_n 2, 5, 0, 0, 0), (5, .bipush 19, 7, 0, 0, 0), (7, .if_icmp .ge 17, 10, 24, 0, 0), (10, .iload_n 1, 11, 0, 0, 0), (11, .iload_n 0, 12, 0, 0, 0), (12, .iload_n 2, 13, 0, 0, 0), (13, .ishr, 14, 0, 0, 0), (14, .iconst 1, 15, 0, 0, 0), (15, .iand, 16, 0, 0, 0), (16, .iadd, 17, 0, 0, 0), (17, .istore_n 1, 18, 0, 0, 0), (18, .iinc 2 1, 21, 0, 0, 0), (21, .goto (-17), 24, 4, 0, 0), (24, .iload_n 1, 25, 0, 0, 0), (25, .ireturn, 26, 0, 0, 0)]
def tb_M_bits : List (Nat × EN) := tb_M_bits_0
def tb_M_isRod_0 : List (Nat × EN) := [(0, .iload_n 0, 1, 0, 0, 0), (1, .iconst 0, 2, 0, 0, 0), (2, .bipush 7, 4, 0, 0, 0), (4, .invokestatic 46, 7, 146, 0, 0), (7, .ireturn, 8, 0, 0, 0)]
def tb_M_isRod : List (Nat × EN) := tb_M_isRod_0
def tb_M_sideOf_0 : List (Nat × EN) := [(0, .iload_n 0, 1, 0, 0, 0), (1, .ifCond .eq 18, 4, 19, 0, 0), (4, .iload_n 0, 5, 0, 0, 0), (5, .iconst 1, 6, 0, 0, 0), (6, .if_icmp .eq 13, 9, 19, 0, 0), (9, .iload_n 0, 10, 0, 0, 0), (10, .iconst 3, 11, 0, 0, 0), (11, .if_icmp .eq 8, 14, 19, 0, 0), (14, .iload_n 0, 15, 0, 0, 0), (15, .iconst 5, 16, 0, 0, 0), (16, .if_icmp .ne 7, 19, 23, 0, 0), (19, .iconst 0, 20, 0, 0, 0), (20, .goto 4, 23, 24, 0, 0), (23, .iconst 1, 24, 0, 0, 0), (24, .ireturn, 25, 0, 0, 0)]
def tb_M_sideOf : List (Nat × EN) := tb_M_sideOf_0
def tb_M_kindOf_0 : List (Nat × EN) := [(0, .iload_n 0, 1, 0, 0, 0), (1, .invokestatic 50, 4, 149, 0, 0), (4, .ifCond .ne 7, 7, 11, 0, 0), (7, .iload_n 0, 8, 0, 0, 0), (8, .goto 7, 11, 15, 0, 0), (11, .bipush 7, 13, 0, 0, 0), (13, .iload_n 0, 14, 0, 0, 0), (14, .isub, 15, 0, 0, 0), (15, .istore_n 1, 16, 0, 0, 0), (16, .iload_n 1, 17, 0, 0, 0), (17, .iconst 2, 18, 0, 0, 0), (18, .if_icmp .ge 7, 21, 25, 0, 0), (21, .iload_n 1, 22, 0, 0, 0), (22, .goto 13, 25, 35, 0, 0), (25, .iload_n 1, 26, 0, 0, 0), (26, .iconst 3, 27, 0, 0, 0), (27, .if_icmp .ne 7, 30, 34, 0, 0), (30, .iconst 2, 31, 0, 0, 0), (31, .goto 4, 34, 35, 0, 0), (34, .iconst 3, 35, 0, 0, 0), (35, .ireturn, 36, 0, 0, 0)]
def tb_M_kindOf : List (Nat × EN) := tb_M_kindOf_0
def tb_M_menOf_0 : List (Nat × EN) := [(0, .iload_n 0, 1, 0, 0, 0), (1, .invokestatic 53, 4, 150, 0, 0), (4, .istore_n 1, 5, 0, 0, 0), (5, .iload_n 1, 6, 0, 0, 0), (6, .ifCond .ne 7, 9, 13, 0, 0), (9, .iconst 1, 10, 0, 0, 0), (10, .goto 22, 13, 32, 0, 0), (13, .iload_n 1, 14, 0, 0, 0), (14, .iconst 1, 15, 0, 0, 0), (15, .if_icmp .ne 7, 18, 22, 0, 0), (18, .iconst 2, 19, 0, 0, 0), (19, .goto 13, 22, 32, 0, 0), (22, .iload_n 1, 23, 0, 0, 0), (23, .iconst 2, 24, 0, 0, 0), (24, .if_icmp .ne 7, 27, 31, 0, 0), (27, .iconst 5, 28, 0, 0, 0), (28, .goto 4, 31, 32, 0, 0), (31, .iconst 3, 32, 0, 0, 0), (32, .ireturn, 33, 0, 0, 0)]
def tb_M_menOf : List (Nat × EN) := tb_M_menOf_0
def tb_M_apartOf_0 : List (Nat × EN) := [(0, .iload_n 0, 1, 0, 0, 0), (1, .invokestatic 53, 4, 150, 0, 0), (4, .istore_n 1, 5, 0, 0, 0), (5, .iload_n 1, 6, 0, 0, 0), (6, .ifCond .ne 7, 9, 13, 0, 0), (9, .iconst 0, 10, 0, 0, 0), (10, .goto 25, 13, 35, 0, 0), (13, .iload_n 1, 14, 0, 0, 0), (14, .iconst 1, 15, 0, 0, 0), (15, .if_icmp .ne 8, 18, 23, 0, 0), (18, .bipush 16, 20, 0, 0, 0), (20, .goto 15, 23, 35, 0, 0), (23, .iload_n 1, 24, 0, 0, 0), (24, .iconst 2, 25, 0, 0, 0), (25, .if_icmp .ne 8, 28, 33, 0, 0), (28, .bipush 8, 30, 0, 0, 0), (30, .goto 5, 33, 35, 0, 0), (33, .bipush 12, 35, 0, 0, 0), (35, .ireturn, 36, 0, 0, 0)]
def tb_M_apartOf : List (Nat × EN) := tb_M_apartOf_0
def tb_M_widest_0 : List (Nat × EN) := [(0, .bipush 40, 2, 0, 0, 0), (2, .iload_n 0, 3, 0, 0, 0), (3, .invokestatic 56, 6, 151, 0, 0), (6, .iconst 1, 7, 0, 0, 0), (7, .isub, 8, 0, 0, 0), (8, .iload_n 0, 9, 0, 0, 0), (9, .invokestatic 59, 12, 152, 0, 0), (12, .imul, 13, 0, 0, 0), (13, .isub, 14, 0, 0, 0), (14, .ireturn, 15, 0, 0, 0)]
def tb_M_widest : List (Nat × EN) := tb_M_widest_0
def tb_M_isMan_0 : List (Nat × EN) := [(0, .iload_n 0, 1, 0, 0, 0), (1, .invokestatic 62, 4, 148, 0, 0), (4, .ifCond .eq 21, 7, 25, 0, 0), (7, .iload_n 1, 8, 0, 0, 0), (8, .iconst 0, 9, 0, 0, 0), (9, .iload_n 0, 10, 0, 0, 0), (10, .invokestatic 56, 13, 151, 0, 0), (13, .iconst 1, 14, 0, 0, 0), (14, .isub, 15, 0, 0, 0), (15, .invokestatic 46, 18, 146, 0, 0), (18, .ifCond .eq 7, 21, 25, 0, 0), (21, .iconst 1, 22, 0, 0, 0), (22, .goto 4, 25, 26, 0, 0), (25, .iconst 0, 26, 0, 0, 0), (26, .ireturn, 27, 0, 0, 0)]
def tb_M_isMan : List (Nat × EN) := tb_M_isMan_0
def tb_M_held_0 : List (Nat × EN) := [(0, .iconst 0, 1, 0, 0, 0), (1, .istore_n 3, 2, 0, 0, 0), (2, .iconst 0, 3, 0, 0, 0), (3, .istore 4, 5, 0, 0, 0), (5, .iload 4, 7, 0, 0, 0), (7, .bipush 8, 9, 0, 0, 0), (9, .if_icmp .ge 41, 12, 50, 0, 0), (12, .iload_n 3, 13, 0, 0, 0), (13, .iload 4, 15, 0, 0, 0), (15, .invokestatic 50, 18, 149, 0, 0), (18, .iload_n 1, 19, 0, 0, 0), (19, .if_icmp .ne 22, 22, 41, 0, 0), (22, .iload 4, 24, 0, 0, 0), (24, .iload_n 2, 25, 0, 0, 0), (25, .if_icmp .eq 16, 28, 41, 0, 0), (28, .aload_n 0, 29, 0, 0, 0), (29, .getfield 13, 32, 8, 1, 2), (32, .bipush 8, 34, 0, 0, 0), (34, .iload 4, 36, 0, 0, 0), (36, .iadd, 37, 0, 0, 0), (37, .iaload, 38, 0, 0, 0), (38, .goto 4, 41, 42, 0, 0), (41, .iconst 0, 42, 0, 0, 0), (42, .iadd, 43, 0, 0, 0), (43, .istore_n 3, 44, 0, 0, 0), (44, .iinc 4 1, 47, 0, 0, 0), (47, .goto (-42), 50, 5, 0, 0), (50, .iload_n 3, 51, 0, 0, 0), (51, .ireturn, 52, 0, 0, 0)]
def tb_M_held : List (Nat × EN) := tb_M_held_0
def tb_M_slide_0 : List (Nat × EN) := [(0, .iload_n 1, 1, 0, 0, 0), (1, .invokestatic 62, 4, 148, 0, 0), (4, .ifCond .ne 5, 7, 9, 0, 0), (7, .iconst (-1), 8, 0, 0, 0), (8, .ireturn, 9, 0, 0, 0), (9, .iload_n 2, 10, 0, 0, 0), (10, .iconst 0, 11, 0, 0, 0), (11, .iload_n 1, 12, 0, 0, 0), (12, .invokestatic 42, 15, 153, 0, 0), (15, .invokestatic 46, 18, 146, 0, 0), (18, .ifCond .ne 6, 21, 24, 0, 0), (21, .bipush (-2), 23, 0, 0, 0), (23, .ireturn, 24, 0, 0, 0), (24, .aload_n 0, 25, 0, 0, 0), (25, .getfield 7, 28, 8, 0, 2), (28, .iload_n 1, 29, 0, 0, 0), (29, .iaload, 30, 0, 0, 0), (30, .istore_n 3, 31, 0, 0, 0), (31, .aload_n 0, 32, 0, 0, 0), (32, .getfield 7, 35, 8, 0, 2), (35, .iload_n 1, 36, 0, 0, 0), (36, .iload_n 2, 37, 0, 0, 0), (37, .iastore, 38, 0, 0, 0), (38, .iload_n 3, 39, 0, 0, 0), (39, .ireturn, 40, 0, 0, 0)]
def tb_M_slide : List (Nat × EN) := tb_M_slide_0
def tb_M_hold_0 : List (Nat × EN) := [(0, .iload_n 1, 1, 0, 0, 0), (1, .invokestatic 62, 4, 148, 0, 0), (4, .ifCond .ne 5, 7, 9, 0, 0), (7, .iconst (-1), 8, 0, 0, 0), (8, .ireturn, 9, 0, 0, 0), (9, .aload_n 0, 10, 0, 0, 0), (10, .invokevirtual 66, 13, 169, 1, 0), (13, .iload_n 2, 14, 0, 0, 0), (14, .ifCond .eq 19, 17, 33, 0, 0), (17, .aload_n 0, 18, 0, 0, 0), (18, .iload_n 1, 19, 0, 0, 0), (19, .invokestatic 50, 22, 149, 0, 0), (22, .iload_n 1, 23, 0, 0, 0), (23, .invokevirtual 69, 26, 155, 1, 0), (26, .iconst 2, 27, 0, 0, 0), (27, .if_icmp .ne 6, 30, 33, 0, 0), (30, .bipush (-4), 32, 0, 0, 0), (32, .ireturn, 33, 0, 0, 0), (33, .aload_n 0, 34, 0, 0, 0), (34, .getfield 7, 37, 8, 0, 2), (37, .bipush 8, 39, 0, 0, 0), (39, .iload_n 1, 40, 0, 0, 0), (40, .iadd, 41, 0, 0, 0), (41, .iload_n 2, 42, 0, 0, 0), (42, .ifCond .eq 7, 45, 49, 0, 0), (45, .iconst 1, 46, 0, 0, 0), (46, .goto 4, 49, 50, 0, 0), (49, .iconst 0, 50, 0, 0, 0), (50, .iastore, 51, 0, 0, 0), (51, .aload_n 0, 52, 0, 0, 0), (52, .invokevirtual 66, 55, 169, 1, 0), (55, .aload_n 0, 56, 0, 0, 0), (56, .iload_n 1, 57, 0, 0, 0), (57, .invokestatic 50, 60, 149, 0, 0), (60, .iconst (-1), 61, 0, 0, 0), (61, .invokevirtual 69, 64, 155, 1, 0), (64, .ireturn, 65, 0, 0, 0)]
def tb_M_hold : List (Nat × EN) := tb_M_hold_0
def tb_M_ball_0 : List (Nat × EN) := [(0, .iload_n 1, 1, 0, 0, 0), (1, .iconst (-1), 2, 0, 0, 0), (2, .if_icmp .eq 13, 5, 15, 0, 0), (5, .iload_n 1, 6, 0, 0, 0), (6, .iload_n 2, 7, 0, 0, 0), (7, .invokestatic 73, 10, 154, 0, 0), (10, .ifCond .ne 5, 13, 15, 0, 0), (13, .iconst (-1), 14, 0, 0, 0), (14, .ireturn, 15, 0, 0, 0), (15, .aload_n 0, 16, 0, 0, 0), (16, .getfield 7, 19, 8, 0, 2), (19, .bipush 16, 21, 0, 0, 0), (21, .iload_n 1, 22, 0, 0, 0), (22, .ifCond .ge 8, 25, 30, 0, 0), (25, .bipush (-6), 27, 0, 0, 0), (27, .goto 4, 30, 31, 0, 0), (30, .iload_n 1, 31, 0, 0, 0), (31, .iastore, 32, 0, 0, 0), (32, .aload_n 0, 33, 0, 0, 0), (33, .getfield 7, 36, 8, 0, 2), (36, .bipush 17, 38, 0, 0, 0), (38, .iload_n 1, 39, 0, 0, 0), (39, .ifCond .ge 8, 42, 47, 0, 0), (42, .bipush (-6), 44, 0, 0, 0), (44, .goto 4, 47, 48, 0, 0), (47, .iload_n 2, 48, 0, 0, 0), (48, .iastore, 49, 0, 0, 0), (49, .iconst 1, 50, 0, 0, 0), (50, .ireturn, 51, 0, 0, 0)]
def tb_M_ball : List (Nat × EN) := tb_M_ball_0
def tb_M_goals_0 : List (Nat × EN) := [(0, .iload_n 1, 1, 0, 0, 0), (1, .iconst 0, 2, 0, 0, 0), (2, .iconst 1, 3, 0, 0, 0), (3, .invokestatic 46, 6, 146, 0, 0), (6, .ifCond .ne 5, 9, 11, 0, 0), (9, .iconst (-1), 10, 0, 0, 0), (10, .ireturn, 11, 0, 0, 0), (11, .iload_n 2, 12, 0, 0, 0), (12, .iconst 0, 13, 0, 0, 0), (13, .bipush 10, 15, 0, 0, 0), (15, .invokestatic 46, 18, 146, 0, 0), (18, .ifCond .ne 6, 21, 24, 0, 0), (21, .bipush (-2), 23, 0, 0, 0), (23, .ireturn, 24, 0, 0, 0), (24, .aload_n 0, 25, 0, 0, 0), (25, .getfield 7, 28, 8, 0, 2), (28, .bipush 18, 30, 0, 0, 0), (30, .iload_n 1, 31, 0, 0, 0), (31, .iadd, 32, 0, 0, 0), (32, .iaload, 33, 0, 0, 0), (33, .istore_n 3, 34, 0, 0, 0), (34, .aload_n 0, 35, 0, 0, 0), (35, .getfield 7, 38, 8, 0, 2), (38, .bipush 18, 40, 0, 0, 0), (40, .iload_n 1, 41, 0, 0, 0), (41, .iadd, 42, 0, 0, 0), (42, .iload_n 2, 43, 0, 0, 0), (43, .iastore, 44, 0, 0, 0), (44, .iload_n 3, 45, 0, 0, 0), (45, .ireturn, 46, 0, 0, 0)]
def tb_M_goals : List (Nat × EN) := tb_M_goals_0
def tb_M_say_0 : List (Nat × EN) := [(0, .iload_n 1, 1, 0, 0, 0), (1, .bipush 33, 3, 0, 0, 0), (3, .bipush 126, 5, 0, 0, 0), (5, .invokestatic 46, 8, 146, 0, 0), (8, .ifCond .ne 6, 11, 14, 0, 0), (11, .bipush (-2), 13, 0, 0, 0), (13, .ireturn, 14, 0, 0, 0), (14, .aload_n 0, 15, 0, 0, 0), (15, .getfield 77, 18, 8, 4, 0), (18, .bipush 60, 20, 0, 0, 0), (20, .if_icmp .ne 6, 23, 26, 0, 0), (23, .bipush (-4), 25, 0, 0, 0), (25, .ireturn, 26, 0, 0, 0), (26, .aload_n 0, 27, 0, 0, 0), (27, .getfield 19, 30, 8, 5, 2), (30, .aload_n 0, 31, 0, 0, 0), (31, .getfield 77, 34, 8, 4, 0), (34, .iload_n 1, 35, 0, 0, 0), (35, .iastore, 36, 0, 0, 0), (36, .aload_n 0, 37, 0, 0, 0), (37, .dup, 38, 0, 0, 0), (38, .getfield 77, 41, 8, 4, 0), (41, .iconst 1, 42, 0, 0, 0), (42, .iadd, 43, 0, 0, 0), (43, .putfield 77, 46, 8, 4, 0), (46, .aload_n 0, 47, 0, 0, 0), (47, .getfield 77, 50, 8, 4, 0), (50, .ireturn, 51, 0, 0, 0)]
def tb_M_say : List (Nat × EN) := tb_M_say_0
def tb_M_wipe_0 : List (Nat × EN) := [(0, .aload_n 0, 1, 0, 0, 0), (1, .getfield 77, 4, 8, 4, 0), (4, .istore_n 1, 5, 0, 0, 0), (5, .aload_n 0, 6, 0, 0, 0), (6, .iconst 0, 7, 0, 0, 0), (7, .putfield 77, 10, 8, 4, 0), (10, .iload_n 1, 11, 0, 0, 0), (11, .ireturn, 12, 0, 0, 0)]
def tb_M_wipe : List (Nat × EN) := tb_M_wipe_0
def tb_M_step_0 : List (Nat × EN) := [(0, .iload_n 1, 1, 0, 0, 0), (1, .bipush 97, 3, 0, 0, 0), (3, .bipush 104, 5, 0, 0, 0), (5, .invokestatic 46, 8, 146, 0, 0), (8, .istore_n 2, 9, 0, 0, 0), (9, .iload_n 1, 10, 0, 0, 0), (10, .bipush 60, 12, 0, 0, 0), (12, .if_icmp .eq 9, 15, 21, 0, 0), (15, .iload_n 1, 16, 0, 0, 0), (16, .bipush 62, 18, 0, 0, 0), (18, .if_icmp .ne 7, 21, 25, 0, 0), (21, .iconst 1, 22, 0, 0, 0), (22, .goto 4, 25, 26, 0, 0), (25, .iconst 0, 26, 0, 0, 0), (26, .istore_n 3, 27, 0, 0, 0), (27, .iload_n 0, 28, 0, 0, 0), (28, .tableswitch 210 0 6 #[44, 106, 133, 151, 169, 180, 192], 72, 0, 0, 0), (72, .iload_n 2, 73, 0, 0, 0), (73, .ifCond .eq 7, 76, 80, 0, 0), (76, .iconst 1, 77, 0, 0, 0), (77, .goto 56, 80, 133, 0, 0), (80, .iload_n 1, 81, 0, 0, 0), (81, .bipush 112, 83, 0, 0, 0), (83, .if_icmp .ne 7, 86, 90, 0, 0), (86, .iconst 3, 87, 0, 0, 0), (87, .goto 46, 90, 133, 0, 0), (90, .iload_n 1, 91, 0, 0, 0), (91, .bipush 80, 93, 0, 0, 0), (93, .if_icmp .ne 7, 96, 100, 0, 0), (96, .iconst 4, 97, 0, 0, 0), (97, .goto 36, 100, 133, 0, 0), (100, .iload_n 1, 101, 0, 0, 0), (101, .bipush 115, 103, 0, 0, 0), (103, .if_icmp .ne 7, 106, 110, 0, 0), (106, .iconst 5, 107, 0, 0, 0), (107, .goto 26, 110, 133, 0, 0), (110, .iload_n 1, 111, 0, 0, 0), (111, .bipush 33, 113, 0, 0, 0), (113, .if_icmp .ne 8, 116, 121, 0, 0), (116, .bipush 7, 118, 0, 0, 0), (118, .goto 15, 121, 133, 0, 0), (121, .iload_n 1, 122, 0, 0, 0), (122, .bipush 46, 124, 0, 0, 0), (124, .if_icmp .ne 7, 127, 131, 0, 0), (127, .iconst 0, 128, 0, 0, 0), (128, .goto 5, 131, 133, 0, 0), (131, .bipush (-6), 133, 0, 0, 0), (133, .ireturn, 134, 0, 0, 0), (134, .iload_n 1, 135, 0, 0, 0), (135, .bipush 40, 137, 0, 0, 0), (137, .if_icmp .eq 9, 140, 146, 0, 0), (140, .iload_n 1, 141, 0, 0, 0), (141, .bipush 41, 143, 0, 0, 0), (143, .if_icmp .ne 7, 146, 150, 0, 0), (146, .iconst 0, 147, 0, 0, 0), (147, .goto 13, 150, 160, 0, 0), (150, .iload_n 3, 151, 0, 0, 0), (151, .ifCond .eq 7, 154, 158, 0, 0), (154, .iconst 2, 155, 0, 0, 0), (155, .goto 5, 158, 160, 0, 0)]
def tb_M_step_1 : List (Nat × EN) := [(158, .bipush (-6), 160, 0, 0, 0), (160, .ireturn, 161, 0, 0, 0), (161, .iload_n 1, 162, 0, 0, 0), (162, .bipush 49, 164, 0, 0, 0), (164, .bipush 57, 166, 0, 0, 0), (166, .invokestatic 46, 169, 146, 0, 0), (169, .ifCond .eq 7, 172, 176, 0, 0), (172, .iconst 0, 173, 0, 0, 0), (173, .goto 5, 176, 178, 0, 0), (176, .bipush (-6), 178, 0, 0, 0), (178, .ireturn, 179, 0, 0, 0), (179, .iload_n 1, 180, 0, 0, 0), (180, .bipush 48, 182, 0, 0, 0), (182, .bipush 52, 184, 0, 0, 0), (184, .invokestatic 46, 187, 146, 0, 0), (187, .ifCond .eq 7, 190, 194, 0, 0), (190, .iconst 0, 191, 0, 0, 0), (191, .goto 5, 194, 196, 0, 0), (194, .bipush (-6), 196, 0, 0, 0), (196, .ireturn, 197, 0, 0, 0), (197, .iload_n 2, 198, 0, 0, 0), (198, .ifCond .eq 7, 201, 205, 0, 0), (201, .iconst 0, 202, 0, 0, 0), (202, .goto 5, 205, 207, 0, 0), (205, .bipush (-6), 207, 0, 0, 0), (207, .ireturn, 208, 0, 0, 0), (208, .iload_n 3, 209, 0, 0, 0), (209, .ifCond .eq 8, 212, 217, 0, 0), (212, .bipush 6, 214, 0, 0, 0), (214, .goto 5, 217, 219, 0, 0), (217, .bipush (-6), 219, 0, 0, 0), (219, .ireturn, 220, 0, 0, 0), (220, .iload_n 1, 221, 0, 0, 0), (221, .bipush 48, 223, 0, 0, 0), (223, .bipush 57, 225, 0, 0, 0), (225, .invokestatic 46, 228, 146, 0, 0), (228, .ifCond .eq 7, 231, 235, 0, 0), (231, .iconst 0, 232, 0, 0, 0), (232, .goto 5, 235, 237, 0, 0), (235, .bipush (-6), 237, 0, 0, 0), (237, .ireturn, 238, 0, 0, 0), (238, .iload_n 2, 239, 0, 0, 0), (239, .ifCond .eq 7, 242, 246, 0, 0), (242, .iconst 3, 243, 0, 0, 0), (243, .goto 5, 246, 248, 0, 0), (246, .bipush (-6), 248, 0, 0, 0), (248, .ireturn, 249, 0, 0, 0)]
def tb_M_step : List (Nat × EN) := tb_M_step_0 ++ tb_M_step_1
def tb_M_faultOf_0 : List (Nat × EN) := [(0, .iconst 0, 1, 0, 0, 0), (1, .istore_n 1, 2, 0, 0, 0), (2, .iconst 0, 3, 0, 0, 0), (3, .istore_n 2, 4, 0, 0, 0), (4, .iload_n 2, 5, 0, 0, 0), (5, .aload_n 0, 6, 0, 0, 0), (6, .getfield 77, 9, 8, 4, 0), (9, .if_icmp .ge 26, 12, 35, 0, 0), (12, .iload_n 1, 13, 0, 0, 0), (13, .aload_n 0, 14, 0, 0, 0), (14, .getfield 19, 17, 8, 5, 2), (17, .iload_n 2, 18, 0, 0, 0), (18, .iaload, 19, 0, 0, 0), (19, .invokestatic 81, 22, 162, 0, 0), (22, .istore_n 1, 23, 0, 0, 0), (23, .iload_n 1, 24, 0, 0, 0), (24, .ifCond .ge 5, 27, 29, 0, 0), (27, .iload_n 2, 28, 0, 0, 0), (28, .ireturn, 29, 0, 0, 0), (29, .iinc 2 1, 32, 0, 0, 0), (32, .goto (-28), 35, 4, 0, 0), (35, .iload_n 1, 36, 0, 0, 0), (36, .ifCond .ne 8, 39, 44, 0, 0), (39, .bipush (-6), 41, 0, 0, 0), (41, .goto 7, 44, 48, 0, 0), (44, .aload_n 0, 45, 0, 0, 0), (45, .getfield 77, 48, 8, 4, 0), (48, .ireturn, 49, 0, 0, 0)]
def tb_M_faultOf : List (Nat × EN) := tb_M_faultOf_0
def tb_M_fault_0 : List (Nat × EN) := [(0, .aload_n 0, 1, 0, 0, 0), (1, .invokevirtual 84, 4, 163, 1, 0), (4, .ireturn, 5, 0, 0, 0)]
def tb_M_fault : List (Nat × EN) := tb_M_fault_0
def tb_M_standsAt_0 : List (Nat × EN) := [(0, .aload_n 0, 1, 0, 0, 0), (1, .getfield 13, 4, 8, 1, 2), (4, .iload_n 1, 5, 0, 0, 0), (5, .iaload, 6, 0, 0, 0), (6, .iload_n 2, 7, 0, 0, 0), (7, .iload_n 1, 8, 0, 0, 0), (8, .invokestatic 59, 11, 152, 0, 0), (11, .imul, 12, 0, 0, 0), (12, .iadd, 13, 0, 0, 0), (13, .ireturn, 14, 0, 0, 0)]
def tb_M_standsAt : List (Nat × EN) := tb_M_standsAt_0
def tb_M_covers_0 : List (Nat × EN) := [(0, .iconst 0, 1, 0, 0, 0), (1, .istore_n 3, 2, 0, 0, 0), (2, .iload_n 3, 3, 0, 0, 0), (3, .iload_n 1, 4, 0, 0, 0), (4, .invokestatic 56, 7, 151, 0, 0), (7, .if_icmp .ge 27, 10, 34, 0, 0), (10, .iload_n 2, 11, 0, 0, 0), (11, .aload_n 0, 12, 0, 0, 0), (12, .iload_n 1, 13, 0, 0, 0), (13, .iload_n 3, 14, 0, 0, 0), (14, .invokevirtual 88, 17, 165, 1, 0), (17, .isub, 18, 0, 0, 0), (18, .iconst (-1), 19, 0, 0, 0), (19, .iconst 1, 20, 0, 0, 0), (20, .invokestatic 46, 23, 146, 0, 0), (23, .ifCond .eq 5, 26, 28, 0, 0), (26, .iload_n 3, 27, 0, 0, 0), (27, .ireturn, 28, 0, 0, 0), (28, .iinc 3 1, 31, 0, 0, 0), (31, .goto (-29), 34, 2, 0, 0), (34, .bipush (-6), 36, 0, 0, 0), (36, .ireturn, 37, 0, 0, 0)]
def tb_M_covers : List (Nat × EN) := tb_M_covers_0
def tb_M_shotBy_0 : List (Nat × EN) := [(0, .aload_n 0, 1, 0, 0, 0), (1, .getfield 13, 4, 8, 1, 2), (4, .bipush 16, 6, 0, 0, 0), (6, .iaload, 7, 0, 0, 0), (7, .invokestatic 50, 10, 149, 0, 0), (10, .istore_n 2, 11, 0, 0, 0), (11, .iload_n 2, 12, 0, 0, 0), (12, .ifCond .ne 7, 15, 19, 0, 0), (15, .iconst 1, 16, 0, 0, 0), (16, .goto 4, 19, 20, 0, 0), (19, .iconst (-1), 20, 0, 0, 0), (20, .istore_n 3, 21, 0, 0, 0), (21, .aload_n 0, 22, 0, 0, 0), (22, .aload_n 0, 23, 0, 0, 0), (23, .getfield 13, 26, 8, 1, 2), (26, .bipush 16, 28, 0, 0, 0), (28, .iaload, 29, 0, 0, 0), (29, .aload_n 0, 30, 0, 0, 0), (30, .getfield 13, 33, 8, 1, 2), (33, .bipush 17, 35, 0, 0, 0), (35, .iaload, 36, 0, 0, 0), (36, .invokevirtual 88, 39, 165, 1, 0), (39, .istore 4, 41, 0, 0, 0), (41, .iload_n 1, 42, 0, 0, 0), (42, .istore 5, 44, 0, 0, 0), (44, .aload_n 0, 45, 0, 0, 0), (45, .getfield 13, 48, 8, 1, 2), (48, .bipush 16, 50, 0, 0, 0), (50, .iaload, 51, 0, 0, 0), (51, .istore 6, 53, 0, 0, 0), (53, .iconst 1, 54, 0, 0, 0), (54, .istore 7, 56, 0, 0, 0), (56, .iload 7, 58, 0, 0, 0), (58, .ifCond .eq 98, 61, 156, 0, 0), (61, .iload 6, 63, 0, 0, 0), (63, .iload_n 3, 64, 0, 0, 0), (64, .iadd, 65, 0, 0, 0), (65, .istore 6, 67, 0, 0, 0), (67, .iload 4, 69, 0, 0, 0), (69, .iload 5, 71, 0, 0, 0), (71, .iadd, 72, 0, 0, 0), (72, .istore 4, 74, 0, 0, 0), (74, .iload 4, 76, 0, 0, 0), (76, .ifCond .lt 10, 79, 86, 0, 0), (79, .iload 4, 81, 0, 0, 0), (81, .bipush 40, 83, 0, 0, 0), (83, .if_icmp .le 26, 86, 109, 0, 0), (86, .iload 4, 88, 0, 0, 0), (88, .ifCond .ge 9, 91, 97, 0, 0), (91, .iload 4, 93, 0, 0, 0), (93, .ineg, 94, 0, 0, 0), (94, .goto 8, 97, 102, 0, 0), (97, .bipush 80, 99, 0, 0, 0), (99, .iload 4, 101, 0, 0, 0), (101, .isub, 102, 0, 0, 0), (102, .istore 4, 104, 0, 0, 0), (104, .iload 5, 106, 0, 0, 0), (106, .ineg, 107, 0, 0, 0), (107, .istore 5, 109, 0, 0, 0), (109, .iload 6, 111, 0, 0, 0)]
def tb_M_shotBy_1 : List (Nat × EN) := [(111, .invokestatic 62, 114, 148, 0, 0), (114, .istore 7, 116, 0, 0, 0), (116, .iload 7, 118, 0, 0, 0), (118, .ifCond .eq (-62), 121, 56, 0, 0), (121, .iload 6, 123, 0, 0, 0), (123, .invokestatic 50, 126, 149, 0, 0), (126, .iload_n 2, 127, 0, 0, 0), (127, .if_icmp .eq (-71), 130, 56, 0, 0), (130, .aload_n 0, 131, 0, 0, 0), (131, .iload 6, 133, 0, 0, 0), (133, .iload 4, 135, 0, 0, 0), (135, .invokevirtual 91, 138, 166, 1, 0), (138, .ifCond .lt (-82), 141, 56, 0, 0), (141, .aload_n 0, 142, 0, 0, 0), (142, .aload_n 0, 143, 0, 0, 0), (143, .iload 6, 145, 0, 0, 0), (145, .iload 4, 147, 0, 0, 0), (147, .invokevirtual 91, 150, 166, 1, 0), (150, .putfield 94, 153, 8, 6, 0), (153, .iload 6, 155, 0, 0, 0), (155, .ireturn, 156, 0, 0, 0), (156, .aload_n 0, 157, 0, 0, 0), (157, .iconst 0, 158, 0, 0, 0), (158, .putfield 94, 161, 8, 6, 0), (161, .iload 4, 163, 0, 0, 0), (163, .bipush 15, 165, 0, 0, 0), (165, .bipush 25, 167, 0, 0, 0), (167, .invokestatic 46, 170, 146, 0, 0), (170, .ifCond .eq 8, 173, 178, 0, 0), (173, .bipush 8, 175, 0, 0, 0), (175, .goto 13, 178, 188, 0, 0), (178, .iload_n 2, 179, 0, 0, 0), (179, .ifCond .ne 8, 182, 187, 0, 0), (182, .bipush 7, 184, 0, 0, 0), (184, .goto 4, 187, 188, 0, 0), (187, .iconst 0, 188, 0, 0, 0), (188, .ireturn, 189, 0, 0, 0)]
def tb_M_shotBy : List (Nat × EN) := tb_M_shotBy_0 ++ tb_M_shotBy_1
def tb_M_overBy_0 : List (Nat × EN) := [(0, .iload_n 1, 1, 0, 0, 0), (1, .iload_n 3, 2, 0, 0, 0), (2, .if_icmp .eq 14, 5, 16, 0, 0), (5, .iload_n 1, 6, 0, 0, 0), (6, .invokestatic 50, 9, 149, 0, 0), (9, .iload_n 3, 10, 0, 0, 0), (10, .invokestatic 50, 13, 149, 0, 0), (13, .if_icmp .eq 6, 16, 19, 0, 0), (16, .bipush (-6), 18, 0, 0, 0), (18, .ireturn, 19, 0, 0, 0), (19, .aload_n 0, 20, 0, 0, 0), (20, .iload_n 1, 21, 0, 0, 0), (21, .iload_n 2, 22, 0, 0, 0), (22, .invokevirtual 88, 25, 165, 1, 0), (25, .istore 4, 27, 0, 0, 0), (27, .iconst 4, 28, 0, 0, 0), (28, .istore 5, 30, 0, 0, 0), (30, .iconst 0, 31, 0, 0, 0), (31, .istore 6, 33, 0, 0, 0), (33, .iload 6, 35, 0, 0, 0), (35, .iload_n 3, 36, 0, 0, 0), (36, .invokestatic 56, 39, 151, 0, 0), (39, .if_icmp .ge 72, 42, 111, 0, 0), (42, .aload_n 0, 43, 0, 0, 0), (43, .iload_n 3, 44, 0, 0, 0), (44, .iload 6, 46, 0, 0, 0), (46, .invokevirtual 88, 49, 165, 1, 0), (49, .iload 4, 51, 0, 0, 0), (51, .isub, 52, 0, 0, 0), (52, .istore 7, 54, 0, 0, 0), (54, .iload 7, 56, 0, 0, 0), (56, .ifCond .ge 9, 59, 65, 0, 0), (59, .iload 7, 61, 0, 0, 0), (61, .ineg, 62, 0, 0, 0), (62, .goto 5, 65, 67, 0, 0), (65, .iload 7, 67, 0, 0, 0), (67, .istore 7, 69, 0, 0, 0), (69, .aload_n 0, 70, 0, 0, 0), (70, .iload 7, 72, 0, 0, 0), (72, .iload 5, 74, 0, 0, 0), (74, .if_icmp .ge 8, 77, 82, 0, 0), (77, .iload 6, 79, 0, 0, 0), (79, .goto 7, 82, 86, 0, 0), (82, .aload_n 0, 83, 0, 0, 0), (83, .getfield 97, 86, 8, 7, 0), (86, .putfield 97, 89, 8, 7, 0), (89, .iload 7, 91, 0, 0, 0), (91, .iload 5, 93, 0, 0, 0), (93, .if_icmp .ge 8, 96, 101, 0, 0), (96, .iload 7, 98, 0, 0, 0), (98, .goto 5, 101, 103, 0, 0), (101, .iload 5, 103, 0, 0, 0), (103, .istore 5, 105, 0, 0, 0), (105, .iinc 6 1, 108, 0, 0, 0), (108, .goto (-75), 111, 33, 0, 0), (111, .iload 5, 113, 0, 0, 0), (113, .iconst 3, 114, 0, 0, 0), (114, .if_icmp .le 6, 117, 120, 0, 0), (117, .bipush (-6), 119, 0, 0, 0), (119, .ireturn, 120, 0, 0, 0)]
def tb_M_overBy_1 : List (Nat × EN) := [(120, .iload_n 3, 121, 0, 0, 0), (121, .iload_n 1, 122, 0, 0, 0), (122, .if_icmp .le 7, 125, 129, 0, 0), (125, .iconst 1, 126, 0, 0, 0), (126, .goto 4, 129, 130, 0, 0), (129, .iconst (-1), 130, 0, 0, 0), (130, .istore 6, 132, 0, 0, 0), (132, .iload_n 1, 133, 0, 0, 0), (133, .iload 6, 135, 0, 0, 0), (135, .iadd, 136, 0, 0, 0), (136, .istore 7, 138, 0, 0, 0), (138, .iload 7, 140, 0, 0, 0), (140, .iload_n 3, 141, 0, 0, 0), (141, .if_icmp .eq 51, 144, 192, 0, 0), (144, .iload 7, 146, 0, 0, 0), (146, .invokestatic 50, 149, 149, 0, 0), (149, .iload_n 1, 150, 0, 0, 0), (150, .invokestatic 50, 153, 149, 0, 0), (153, .if_icmp .eq 29, 156, 182, 0, 0), (156, .aload_n 0, 157, 0, 0, 0), (157, .iload 7, 159, 0, 0, 0), (159, .iload 4, 161, 0, 0, 0), (161, .invokevirtual 91, 164, 166, 1, 0), (164, .ifCond .lt 18, 167, 182, 0, 0), (167, .aload_n 0, 168, 0, 0, 0), (168, .aload_n 0, 169, 0, 0, 0), (169, .iload 7, 171, 0, 0, 0), (171, .iload 4, 173, 0, 0, 0), (173, .invokevirtual 91, 176, 166, 1, 0), (176, .putfield 97, 179, 8, 7, 0), (179, .iload 7, 181, 0, 0, 0), (181, .ireturn, 182, 0, 0, 0), (182, .iload 7, 184, 0, 0, 0), (184, .iload 6, 186, 0, 0, 0), (186, .iadd, 187, 0, 0, 0), (187, .istore 7, 189, 0, 0, 0), (189, .goto (-51), 192, 138, 0, 0), (192, .iload_n 3, 193, 0, 0, 0), (193, .ireturn, 194, 0, 0, 0)]
def tb_M_overBy : List (Nat × EN) := tb_M_overBy_0 ++ tb_M_overBy_1
def tb_M_asNow_0 : List (Nat × EN) := [(0, .iconst 0, 1, 0, 0, 0), (1, .istore_n 1, 2, 0, 0, 0), (2, .iload_n 1, 3, 0, 0, 0), (3, .bipush 21, 5, 0, 0, 0), (5, .if_icmp .ge 21, 8, 26, 0, 0), (8, .aload_n 0, 9, 0, 0, 0), (9, .getfield 13, 12, 8, 1, 2), (12, .iload_n 1, 13, 0, 0, 0), (13, .aload_n 0, 14, 0, 0, 0), (14, .getfield 7, 17, 8, 0, 2), (17, .iload_n 1, 18, 0, 0, 0), (18, .iaload, 19, 0, 0, 0), (19, .iastore, 20, 0, 0, 0), (20, .iinc 1 1, 23, 0, 0, 0), (23, .goto (-21), 26, 2, 0, 0), (26, .aload_n 0, 27, 0, 0, 0), (27, .bipush (-6), 29, 0, 0, 0), (29, .putfield 100, 32, 8, 8, 0), (32, .return_, 33, 0, 0, 0)]
def tb_M_asNow : List (Nat × EN) := tb_M_asNow_0
def tb_M_isOver_0 : List (Nat × EN) := [(0, .aload_n 0, 1, 0, 0, 0), (1, .getfield 13, 4, 8, 1, 2), (4, .bipush 18, 6, 0, 0, 0), (6, .iaload, 7, 0, 0, 0), (7, .bipush 10, 9, 0, 0, 0), (9, .if_icmp .eq 15, 12, 24, 0, 0), (12, .aload_n 0, 13, 0, 0, 0), (13, .getfield 13, 16, 8, 1, 2), (16, .bipush 19, 18, 0, 0, 0), (18, .iaload, 19, 0, 0, 0), (19, .bipush 10, 21, 0, 0, 0), (21, .if_icmp .ne 7, 24, 28, 0, 0), (24, .iconst 1, 25, 0, 0, 0), (25, .goto 4, 28, 29, 0, 0), (28, .iconst 0, 29, 0, 0, 0), (29, .ireturn, 30, 0, 0, 0)]
def tb_M_isOver : List (Nat × EN) := tb_M_isOver_0
def tb_M_grasp_0 : List (Nat × EN) := [(0, .aload_n 0, 1, 0, 0, 0), (1, .invokevirtual 103, 4, 170, 1, 0), (4, .ifCond .eq 5, 7, 9, 0, 0), (7, .iconst 1, 8, 0, 0, 0), (8, .ireturn, 9, 0, 0, 0), (9, .aload_n 0, 10, 0, 0, 0), (10, .getfield 13, 13, 8, 1, 2), (13, .bipush 8, 15, 0, 0, 0), (15, .iload_n 1, 16, 0, 0, 0), (16, .iadd, 17, 0, 0, 0), (17, .iaload, 18, 0, 0, 0), (18, .iconst 1, 19, 0, 0, 0), (19, .if_icmp .ne 5, 22, 24, 0, 0), (22, .iconst 3, 23, 0, 0, 0), (23, .ireturn, 24, 0, 0, 0), (24, .aload_n 0, 25, 0, 0, 0), (25, .iload_n 1, 26, 0, 0, 0), (26, .invokestatic 50, 29, 149, 0, 0), (29, .iload_n 1, 30, 0, 0, 0), (30, .invokevirtual 69, 33, 155, 1, 0), (33, .iconst 2, 34, 0, 0, 0), (34, .if_icmp .ne 5, 37, 39, 0, 0), (37, .iconst 4, 38, 0, 0, 0), (38, .ireturn, 39, 0, 0, 0), (39, .aload_n 0, 40, 0, 0, 0), (40, .getfield 13, 43, 8, 1, 2), (43, .bipush 8, 45, 0, 0, 0), (45, .iload_n 1, 46, 0, 0, 0), (46, .iadd, 47, 0, 0, 0), (47, .iconst 1, 48, 0, 0, 0), (48, .iastore, 49, 0, 0, 0), (49, .iconst 0, 50, 0, 0, 0), (50, .ireturn, 51, 0, 0, 0)]
def tb_M_grasp : List (Nat × EN) := tb_M_grasp_0
def tb_M_letGo_0 : List (Nat × EN) := [(0, .aload_n 0, 1, 0, 0, 0), (1, .invokevirtual 103, 4, 170, 1, 0), (4, .ifCond .eq 5, 7, 9, 0, 0), (7, .iconst 1, 8, 0, 0, 0), (8, .ireturn, 9, 0, 0, 0), (9, .aload_n 0, 10, 0, 0, 0), (10, .getfield 13, 13, 8, 1, 2), (13, .bipush 8, 15, 0, 0, 0), (15, .iload_n 1, 16, 0, 0, 0), (16, .iadd, 17, 0, 0, 0), (17, .iaload, 18, 0, 0, 0), (18, .ifCond .ne 5, 21, 23, 0, 0), (21, .iconst 3, 22, 0, 0, 0), (22, .ireturn, 23, 0, 0, 0), (23, .aload_n 0, 24, 0, 0, 0), (24, .getfield 13, 27, 8, 1, 2), (27, .bipush 8, 29, 0, 0, 0), (29, .iload_n 1, 30, 0, 0, 0), (30, .iadd, 31, 0, 0, 0), (31, .iconst 0, 32, 0, 0, 0), (32, .iastore, 33, 0, 0, 0), (33, .iconst 0, 34, 0, 0, 0), (34, .ireturn, 35, 0, 0, 0)]
def tb_M_letGo : List (Nat × EN) := tb_M_letGo_0
def tb_M_slideBy_0 : List (Nat × EN) := [(0, .aload_n 0, 1, 0, 0, 0), (1, .invokevirtual 103, 4, 170, 1, 0), (4, .ifCond .eq 5, 7, 9, 0, 0), (7, .iconst 1, 8, 0, 0, 0), (8, .ireturn, 9, 0, 0, 0), (9, .aload_n 0, 10, 0, 0, 0), (10, .getfield 13, 13, 8, 1, 2), (13, .bipush 8, 15, 0, 0, 0), (15, .iload_n 1, 16, 0, 0, 0), (16, .iadd, 17, 0, 0, 0), (17, .iaload, 18, 0, 0, 0), (18, .ifCond .ne 5, 21, 23, 0, 0), (21, .iconst 3, 22, 0, 0, 0), (22, .ireturn, 23, 0, 0, 0), (23, .aload_n 0, 24, 0, 0, 0), (24, .getfield 13, 27, 8, 1, 2), (27, .iload_n 1, 28, 0, 0, 0), (28, .iaload, 29, 0, 0, 0), (29, .iload_n 2, 30, 0, 0, 0), (30, .iadd, 31, 0, 0, 0), (31, .iconst 0, 32, 0, 0, 0), (32, .iload_n 1, 33, 0, 0, 0), (33, .invokestatic 42, 36, 153, 0, 0), (36, .invokestatic 46, 39, 146, 0, 0), (39, .ifCond .ne 5, 42, 44, 0, 0), (42, .iconst 5, 43, 0, 0, 0), (43, .ireturn, 44, 0, 0, 0), (44, .aload_n 0, 45, 0, 0, 0), (45, .getfield 13, 48, 8, 1, 2), (48, .iload_n 1, 49, 0, 0, 0), (49, .dup2, 50, 0, 0, 0), (50, .iaload, 51, 0, 0, 0), (51, .iload_n 2, 52, 0, 0, 0), (52, .iadd, 53, 0, 0, 0), (53, .iastore, 54, 0, 0, 0), (54, .iconst 0, 55, 0, 0, 0), (55, .ireturn, 56, 0, 0, 0)]
def tb_M_slideBy : List (Nat × EN) := tb_M_slideBy_0
def tb_M_whyNot_0 : List (Nat × EN) := [(0, .aload_n 0, 1, 0, 0, 0), (1, .invokevirtual 103, 4, 170, 1, 0), (4, .ifCond .eq 7, 7, 11, 0, 0), (7, .iconst 1, 8, 0, 0, 0), (8, .goto 40, 11, 48, 0, 0), (11, .aload_n 0, 12, 0, 0, 0), (12, .getfield 13, 15, 8, 1, 2), (15, .bipush 16, 17, 0, 0, 0), (17, .iaload, 18, 0, 0, 0), (18, .ifCond .ge 7, 21, 25, 0, 0), (21, .iconst 2, 22, 0, 0, 0), (22, .goto 26, 25, 48, 0, 0), (25, .aload_n 0, 26, 0, 0, 0), (26, .getfield 13, 29, 8, 1, 2), (29, .bipush 8, 31, 0, 0, 0), (31, .aload_n 0, 32, 0, 0, 0), (32, .getfield 13, 35, 8, 1, 2), (35, .bipush 16, 37, 0, 0, 0), (37, .iaload, 38, 0, 0, 0), (38, .iadd, 39, 0, 0, 0), (39, .iaload, 40, 0, 0, 0), (40, .ifCond .ne 7, 43, 47, 0, 0), (43, .iconst 3, 44, 0, 0, 0), (44, .goto 4, 47, 48, 0, 0), (47, .iconst 0, 48, 0, 0, 0), (48, .ireturn, 49, 0, 0, 0)]
def tb_M_whyNot : List (Nat × EN) := tb_M_whyNot_0
def tb_M_passTo_0 : List (Nat × EN) := [(0, .aload_n 0, 1, 0, 0, 0), (1, .invokevirtual 107, 4, 174, 1, 0), (4, .istore_n 2, 5, 0, 0, 0), (5, .iload_n 2, 6, 0, 0, 0), (6, .ifCond .le 5, 9, 11, 0, 0), (9, .iload_n 2, 10, 0, 0, 0), (10, .ireturn, 11, 0, 0, 0), (11, .aload_n 0, 12, 0, 0, 0), (12, .getfield 13, 15, 8, 1, 2), (15, .bipush 16, 17, 0, 0, 0), (17, .iaload, 18, 0, 0, 0), (18, .iload_n 1, 19, 0, 0, 0), (19, .invokestatic 73, 22, 154, 0, 0), (22, .ifCond .eq 29, 25, 51, 0, 0), (25, .iload_n 1, 26, 0, 0, 0), (26, .aload_n 0, 27, 0, 0, 0), (27, .getfield 13, 30, 8, 1, 2), (30, .bipush 17, 32, 0, 0, 0), (32, .iaload, 33, 0, 0, 0), (33, .iconst 1, 34, 0, 0, 0), (34, .iadd, 35, 0, 0, 0), (35, .if_icmp .eq 19, 38, 54, 0, 0), (38, .iload_n 1, 39, 0, 0, 0), (39, .aload_n 0, 40, 0, 0, 0), (40, .getfield 13, 43, 8, 1, 2), (43, .bipush 17, 45, 0, 0, 0), (45, .iaload, 46, 0, 0, 0), (46, .iconst 1, 47, 0, 0, 0), (47, .isub, 48, 0, 0, 0), (48, .if_icmp .eq 6, 51, 54, 0, 0), (51, .bipush 6, 53, 0, 0, 0), (53, .ireturn, 54, 0, 0, 0), (54, .aload_n 0, 55, 0, 0, 0), (55, .getfield 13, 58, 8, 1, 2), (58, .bipush 17, 60, 0, 0, 0), (60, .iload_n 1, 61, 0, 0, 0), (61, .iastore, 62, 0, 0, 0), (62, .iconst 0, 63, 0, 0, 0), (63, .ireturn, 64, 0, 0, 0)]
def tb_M_passTo : List (Nat × EN) := tb_M_passTo_0
def tb_M_passOver_0 : List (Nat × EN) := [(0, .aload_n 0, 1, 0, 0, 0), (1, .invokevirtual 107, 4, 174, 1, 0), (4, .istore_n 2, 5, 0, 0, 0), (5, .iload_n 2, 6, 0, 0, 0), (6, .ifCond .le 5, 9, 11, 0, 0), (9, .iload_n 2, 10, 0, 0, 0), (10, .ireturn, 11, 0, 0, 0), (11, .aload_n 0, 12, 0, 0, 0), (12, .aload_n 0, 13, 0, 0, 0), (13, .getfield 13, 16, 8, 1, 2), (16, .bipush 16, 18, 0, 0, 0), (18, .iaload, 19, 0, 0, 0), (19, .aload_n 0, 20, 0, 0, 0), (20, .getfield 13, 23, 8, 1, 2), (23, .bipush 17, 25, 0, 0, 0), (25, .iaload, 26, 0, 0, 0), (26, .iload_n 1, 27, 0, 0, 0), (27, .invokevirtual 110, 30, 168, 1, 0), (30, .istore_n 3, 31, 0, 0, 0), (31, .iload_n 3, 32, 0, 0, 0), (32, .ifCond .ge 6, 35, 38, 0, 0), (35, .bipush 6, 37, 0, 0, 0), (37, .ireturn, 38, 0, 0, 0), (38, .aload_n 0, 39, 0, 0, 0), (39, .getfield 13, 42, 8, 1, 2), (42, .bipush 16, 44, 0, 0, 0), (44, .iload_n 3, 45, 0, 0, 0), (45, .iastore, 46, 0, 0, 0), (46, .aload_n 0, 47, 0, 0, 0), (47, .getfield 13, 50, 8, 1, 2), (50, .bipush 17, 52, 0, 0, 0), (52, .aload_n 0, 53, 0, 0, 0), (53, .getfield 97, 56, 8, 7, 0), (56, .iastore, 57, 0, 0, 0), (57, .iconst 0, 58, 0, 0, 0), (58, .ireturn, 59, 0, 0, 0)]
def tb_M_passOver : List (Nat × EN) := tb_M_passOver_0
def tb_M_shoot_0 : List (Nat × EN) := [(0, .aload_n 0, 1, 0, 0, 0), (1, .invokevirtual 107, 4, 174, 1, 0), (4, .istore_n 2, 5, 0, 0, 0), (5, .iload_n 2, 6, 0, 0, 0), (6, .ifCond .le 5, 9, 11, 0, 0), (9, .iload_n 2, 10, 0, 0, 0), (10, .ireturn, 11, 0, 0, 0), (11, .aload_n 0, 12, 0, 0, 0), (12, .getfield 13, 15, 8, 1, 2), (15, .bipush 16, 17, 0, 0, 0), (17, .iaload, 18, 0, 0, 0), (18, .invokestatic 50, 21, 149, 0, 0), (21, .istore_n 3, 22, 0, 0, 0), (22, .aload_n 0, 23, 0, 0, 0), (23, .iload_n 1, 24, 0, 0, 0), (24, .invokevirtual 114, 27, 167, 1, 0), (27, .istore 4, 29, 0, 0, 0), (29, .aload_n 0, 30, 0, 0, 0), (30, .getfield 13, 33, 8, 1, 2), (33, .bipush 16, 35, 0, 0, 0), (35, .iload 4, 37, 0, 0, 0), (37, .bipush 8, 39, 0, 0, 0), (39, .if_icmp .ne 8, 42, 47, 0, 0), (42, .bipush (-6), 44, 0, 0, 0), (44, .goto 5, 47, 49, 0, 0), (47, .iload 4, 49, 0, 0, 0), (49, .iastore, 50, 0, 0, 0), (50, .aload_n 0, 51, 0, 0, 0), (51, .getfield 13, 54, 8, 1, 2), (54, .bipush 17, 56, 0, 0, 0), (56, .iload 4, 58, 0, 0, 0), (58, .bipush 8, 60, 0, 0, 0), (60, .if_icmp .ne 8, 63, 68, 0, 0), (63, .bipush (-6), 65, 0, 0, 0), (65, .goto 7, 68, 72, 0, 0), (68, .aload_n 0, 69, 0, 0, 0), (69, .getfield 94, 72, 8, 6, 0), (72, .iastore, 73, 0, 0, 0), (73, .aload_n 0, 74, 0, 0, 0), (74, .getfield 13, 77, 8, 1, 2), (77, .bipush 18, 79, 0, 0, 0), (79, .iload_n 3, 80, 0, 0, 0), (80, .iadd, 81, 0, 0, 0), (81, .dup2, 82, 0, 0, 0), (82, .iaload, 83, 0, 0, 0), (83, .iload 4, 85, 0, 0, 0), (85, .bipush 8, 87, 0, 0, 0), (87, .if_icmp .ne 7, 90, 94, 0, 0), (90, .iconst 1, 91, 0, 0, 0), (91, .goto 4, 94, 95, 0, 0), (94, .iconst 0, 95, 0, 0, 0), (95, .iadd, 96, 0, 0, 0), (96, .iastore, 97, 0, 0, 0), (97, .iconst 0, 98, 0, 0, 0), (98, .ireturn, 99, 0, 0, 0)]
def tb_M_shoot : List (Nat × EN) := tb_M_shoot_0
def tb_M_throwIn_0 : List (Nat × EN) := [(0, .aload_n 0, 1, 0, 0, 0), (1, .invokevirtual 103, 4, 170, 1, 0), (4, .ifCond .eq 5, 7, 9, 0, 0), (7, .iconst 1, 8, 0, 0, 0), (8, .ireturn, 9, 0, 0, 0), (9, .aload_n 0, 10, 0, 0, 0), (10, .getfield 13, 13, 8, 1, 2), (13, .bipush 16, 15, 0, 0, 0), (15, .iaload, 16, 0, 0, 0), (16, .ifCond .lt 5, 19, 21, 0, 0), (19, .iconst 2, 20, 0, 0, 0), (20, .ireturn, 21, 0, 0, 0), (21, .iload_n 1, 22, 0, 0, 0), (22, .iload_n 2, 23, 0, 0, 0), (23, .invokestatic 73, 26, 154, 0, 0), (26, .ifCond .ne 6, 29, 32, 0, 0), (29, .bipush 6, 31, 0, 0, 0), (31, .ireturn, 32, 0, 0, 0), (32, .aload_n 0, 33, 0, 0, 0), (33, .getfield 13, 36, 8, 1, 2), (36, .bipush 16, 38, 0, 0, 0), (38, .iload_n 1, 39, 0, 0, 0), (39, .iastore, 40, 0, 0, 0), (40, .aload_n 0, 41, 0, 0, 0), (41, .getfield 13, 44, 8, 1, 2), (44, .bipush 17, 46, 0, 0, 0), (46, .iload_n 2, 47, 0, 0, 0), (47, .iastore, 48, 0, 0, 0), (48, .iconst 0, 49, 0, 0, 0), (49, .ireturn, 50, 0, 0, 0)]
def tb_M_throwIn : List (Nat × EN) := tb_M_throwIn_0
def tb_M_endTenth_0 : List (Nat × EN) := [(0, .aload_n 0, 1, 0, 0, 0), (1, .invokevirtual 103, 4, 170, 1, 0), (4, .ifCond .eq 5, 7, 9, 0, 0), (7, .iconst 1, 8, 0, 0, 0), (8, .ireturn, 9, 0, 0, 0), (9, .aload_n 0, 10, 0, 0, 0), (10, .getfield 13, 13, 8, 1, 2), (13, .bipush 20, 15, 0, 0, 0), (15, .iaload, 16, 0, 0, 0), (16, .sipush 999, 19, 0, 0, 0), (19, .if_icmp .ne 6, 22, 25, 0, 0), (22, .bipush 7, 24, 0, 0, 0), (24, .ireturn, 25, 0, 0, 0), (25, .aload_n 0, 26, 0, 0, 0), (26, .getfield 13, 29, 8, 1, 2), (29, .bipush 20, 31, 0, 0, 0), (31, .dup2, 32, 0, 0, 0), (32, .iaload, 33, 0, 0, 0), (33, .iconst 1, 34, 0, 0, 0), (34, .iadd, 35, 0, 0, 0), (35, .iastore, 36, 0, 0, 0), (36, .iconst 0, 37, 0, 0, 0), (37, .ireturn, 38, 0, 0, 0)]
def tb_M_endTenth : List (Nat × EN) := tb_M_endTenth_0
def tb_M_rodAct_0 : List (Nat × EN) := [(0, .aload_n 0, 1, 0, 0, 0), (1, .getfield 19, 4, 8, 5, 2), (4, .aload_n 0, 5, 0, 0, 0), (5, .getfield 117, 8, 8, 11, 0), (8, .iconst 1, 9, 0, 0, 0), (9, .iadd, 10, 0, 0, 0), (10, .iaload, 11, 0, 0, 0), (11, .istore_n 2, 12, 0, 0, 0), (12, .aload_n 0, 13, 0, 0, 0), (13, .dup, 14, 0, 0, 0), (14, .getfield 117, 17, 8, 11, 0), (17, .iconst 2, 18, 0, 0, 0), (18, .iadd, 19, 0, 0, 0), (19, .putfield 117, 22, 8, 11, 0), (22, .iload_n 2, 23, 0, 0, 0), (23, .bipush 40, 25, 0, 0, 0), (25, .if_icmp .eq 9, 28, 34, 0, 0), (28, .iload_n 2, 29, 0, 0, 0), (29, .bipush 41, 31, 0, 0, 0), (31, .if_icmp .ne 23, 34, 54, 0, 0), (34, .iload_n 2, 35, 0, 0, 0), (35, .bipush 40, 37, 0, 0, 0), (37, .if_icmp .ne 11, 40, 48, 0, 0), (40, .aload_n 0, 41, 0, 0, 0), (41, .iload_n 1, 42, 0, 0, 0), (42, .invokevirtual 120, 45, 171, 1, 0), (45, .goto 8, 48, 53, 0, 0), (48, .aload_n 0, 49, 0, 0, 0), (49, .iload_n 1, 50, 0, 0, 0), (50, .invokevirtual 123, 53, 172, 1, 0), (53, .ireturn, 54, 0, 0, 0), (54, .aload_n 0, 55, 0, 0, 0), (55, .dup, 56, 0, 0, 0), (56, .getfield 117, 59, 8, 11, 0), (59, .iconst 1, 60, 0, 0, 0), (60, .iadd, 61, 0, 0, 0), (61, .putfield 117, 64, 8, 11, 0), (64, .aload_n 0, 65, 0, 0, 0), (65, .getfield 19, 68, 8, 5, 2), (68, .aload_n 0, 69, 0, 0, 0), (69, .getfield 117, 72, 8, 11, 0), (72, .iconst 1, 73, 0, 0, 0), (73, .isub, 74, 0, 0, 0), (74, .iaload, 75, 0, 0, 0), (75, .bipush 48, 77, 0, 0, 0), (77, .isub, 78, 0, 0, 0), (78, .istore_n 3, 79, 0, 0, 0), (79, .aload_n 0, 80, 0, 0, 0), (80, .iload_n 1, 81, 0, 0, 0), (81, .iload_n 2, 82, 0, 0, 0), (82, .bipush 60, 84, 0, 0, 0), (84, .if_icmp .ne 8, 87, 92, 0, 0), (87, .iload_n 3, 88, 0, 0, 0), (88, .ineg, 89, 0, 0, 0), (89, .goto 4, 92, 93, 0, 0), (92, .iload_n 3, 93, 0, 0, 0), (93, .invokevirtual 126, 96, 173, 1, 0), (96, .ireturn, 97, 0, 0, 0)]
def tb_M_rodAct : List (Nat × EN) := tb_M_rodAct_0
def tb_M_nextAct_0 : List (Nat × EN) := [(0, .aload_n 0, 1, 0, 0, 0), (1, .getfield 19, 4, 8, 5, 2), (4, .aload_n 0, 5, 0, 0, 0), (5, .getfield 117, 8, 8, 11, 0), (8, .iaload, 9, 0, 0, 0), (9, .istore_n 1, 10, 0, 0, 0), (10, .iload_n 1, 11, 0, 0, 0), (11, .lookupswitch 227 #[(33, 184), (46, 49), (80, 93), (112, 64), (115, 122)], 60, 0, 0, 0), (60, .aload_n 0, 61, 0, 0, 0), (61, .dup, 62, 0, 0, 0), (62, .getfield 117, 65, 8, 11, 0), (65, .iconst 1, 66, 0, 0, 0), (66, .iadd, 67, 0, 0, 0), (67, .putfield 117, 70, 8, 11, 0), (70, .aload_n 0, 71, 0, 0, 0), (71, .invokevirtual 129, 74, 179, 1, 0), (74, .ireturn, 75, 0, 0, 0), (75, .aload_n 0, 76, 0, 0, 0), (76, .dup, 77, 0, 0, 0), (77, .getfield 117, 80, 8, 11, 0), (80, .iconst 2, 81, 0, 0, 0), (81, .iadd, 82, 0, 0, 0), (82, .putfield 117, 85, 8, 11, 0), (85, .aload_n 0, 86, 0, 0, 0), (86, .aload_n 0, 87, 0, 0, 0), (87, .getfield 19, 90, 8, 5, 2), (90, .aload_n 0, 91, 0, 0, 0), (91, .getfield 117, 94, 8, 11, 0), (94, .iconst 1, 95, 0, 0, 0), (95, .isub, 96, 0, 0, 0), (96, .iaload, 97, 0, 0, 0), (97, .bipush 48, 99, 0, 0, 0), (99, .isub, 100, 0, 0, 0), (100, .invokevirtual 132, 103, 175, 1, 0), (103, .ireturn, 104, 0, 0, 0), (104, .aload_n 0, 105, 0, 0, 0), (105, .dup, 106, 0, 0, 0), (106, .getfield 117, 109, 8, 11, 0), (109, .iconst 2, 110, 0, 0, 0), (110, .iadd, 111, 0, 0, 0), (111, .putfield 117, 114, 8, 11, 0), (114, .aload_n 0, 115, 0, 0, 0), (115, .aload_n 0, 116, 0, 0, 0), (116, .getfield 19, 119, 8, 5, 2), (119, .aload_n 0, 120, 0, 0, 0), (120, .getfield 117, 123, 8, 11, 0), (123, .iconst 1, 124, 0, 0, 0), (124, .isub, 125, 0, 0, 0), (125, .iaload, 126, 0, 0, 0), (126, .bipush 97, 128, 0, 0, 0), (128, .isub, 129, 0, 0, 0), (129, .invokevirtual 135, 132, 176, 1, 0), (132, .ireturn, 133, 0, 0, 0), (133, .aload_n 0, 134, 0, 0, 0), (134, .dup, 135, 0, 0, 0), (135, .getfield 117, 138, 8, 11, 0), (138, .iconst 3, 139, 0, 0, 0), (139, .iadd, 140, 0, 0, 0), (140, .putfield 117, 143, 8, 11, 0), (143, .aload_n 0, 144, 0, 0, 0)]
def tb_M_nextAct_1 : List (Nat × EN) := [(144, .aload_n 0, 145, 0, 0, 0), (145, .getfield 19, 148, 8, 5, 2), (148, .aload_n 0, 149, 0, 0, 0), (149, .getfield 117, 152, 8, 11, 0), (152, .iconst 2, 153, 0, 0, 0), (153, .isub, 154, 0, 0, 0), (154, .iaload, 155, 0, 0, 0), (155, .bipush 60, 157, 0, 0, 0), (157, .if_icmp .ne 20, 160, 177, 0, 0), (160, .bipush 48, 162, 0, 0, 0), (162, .aload_n 0, 163, 0, 0, 0), (163, .getfield 19, 166, 8, 5, 2), (166, .aload_n 0, 167, 0, 0, 0), (167, .getfield 117, 170, 8, 11, 0), (170, .iconst 1, 171, 0, 0, 0), (171, .isub, 172, 0, 0, 0), (172, .iaload, 173, 0, 0, 0), (173, .isub, 174, 0, 0, 0), (174, .goto 17, 177, 191, 0, 0), (177, .aload_n 0, 178, 0, 0, 0), (178, .getfield 19, 181, 8, 5, 2), (181, .aload_n 0, 182, 0, 0, 0), (182, .getfield 117, 185, 8, 11, 0), (185, .iconst 1, 186, 0, 0, 0), (186, .isub, 187, 0, 0, 0), (187, .iaload, 188, 0, 0, 0), (188, .bipush 48, 190, 0, 0, 0), (190, .isub, 191, 0, 0, 0), (191, .invokevirtual 138, 194, 177, 1, 0), (194, .ireturn, 195, 0, 0, 0), (195, .aload_n 0, 196, 0, 0, 0), (196, .dup, 197, 0, 0, 0), (197, .getfield 117, 200, 8, 11, 0), (200, .iconst 3, 201, 0, 0, 0), (201, .iadd, 202, 0, 0, 0), (202, .putfield 117, 205, 8, 11, 0), (205, .aload_n 0, 206, 0, 0, 0), (206, .aload_n 0, 207, 0, 0, 0), (207, .getfield 19, 210, 8, 5, 2), (210, .aload_n 0, 211, 0, 0, 0), (211, .getfield 117, 214, 8, 11, 0), (214, .iconst 2, 215, 0, 0, 0), (215, .isub, 216, 0, 0, 0), (216, .iaload, 217, 0, 0, 0), (217, .bipush 97, 219, 0, 0, 0), (219, .isub, 220, 0, 0, 0), (220, .aload_n 0, 221, 0, 0, 0), (221, .getfield 19, 224, 8, 5, 2), (224, .aload_n 0, 225, 0, 0, 0), (225, .getfield 117, 228, 8, 11, 0), (228, .iconst 1, 229, 0, 0, 0), (229, .isub, 230, 0, 0, 0), (230, .iaload, 231, 0, 0, 0), (231, .bipush 48, 233, 0, 0, 0), (233, .isub, 234, 0, 0, 0), (234, .invokevirtual 141, 237, 178, 1, 0), (237, .ireturn, 238, 0, 0, 0), (238, .aload_n 0, 239, 0, 0, 0), (239, .iload_n 1, 240, 0, 0, 0), (240, .bipush 97, 242, 0, 0, 0)]
def tb_M_nextAct_2 : List (Nat × EN) := [(242, .isub, 243, 0, 0, 0), (243, .invokevirtual 144, 246, 180, 1, 0), (246, .ireturn, 247, 0, 0, 0)]
def tb_M_nextAct : List (Nat × EN) := tb_M_nextAct_0 ++ tb_M_nextAct_1 ++ tb_M_nextAct_2
def tb_M_goEvenings_0 : List (Nat × EN) := [(0, .aload_n 0, 1, 0, 0, 0), (1, .invokevirtual 66, 4, 169, 1, 0), (4, .aload_n 0, 5, 0, 0, 0), (5, .iconst 0, 6, 0, 0, 0), (6, .putfield 147, 9, 8, 10, 0), (9, .aload_n 0, 10, 0, 0, 0), (10, .iconst 0, 11, 0, 0, 0), (11, .putfield 117, 14, 8, 11, 0), (14, .aload_n 0, 15, 0, 0, 0), (15, .getfield 117, 18, 8, 11, 0), (18, .aload_n 0, 19, 0, 0, 0), (19, .getfield 77, 22, 8, 4, 0), (22, .if_icmp .ge 93, 25, 115, 0, 0), (25, .aload_n 0, 26, 0, 0, 0), (26, .getfield 13, 29, 8, 1, 2), (29, .bipush 18, 31, 0, 0, 0), (31, .iaload, 32, 0, 0, 0), (32, .aload_n 0, 33, 0, 0, 0), (33, .getfield 13, 36, 8, 1, 2), (36, .bipush 19, 38, 0, 0, 0), (38, .iaload, 39, 0, 0, 0), (39, .iadd, 40, 0, 0, 0), (40, .istore_n 1, 41, 0, 0, 0), (41, .aload_n 0, 42, 0, 0, 0), (42, .aload_n 0, 43, 0, 0, 0), (43, .invokevirtual 150, 46, 181, 1, 0), (46, .putfield 153, 49, 8, 9, 0), (49, .aload_n 0, 50, 0, 0, 0), (50, .getfield 153, 53, 8, 9, 0), (53, .ifCond .le 8, 56, 61, 0, 0), (56, .aload_n 0, 57, 0, 0, 0), (57, .getfield 147, 60, 8, 10, 0), (60, .ireturn, 61, 0, 0, 0), (61, .aload_n 0, 62, 0, 0, 0), (62, .aload_n 0, 63, 0, 0, 0), (63, .getfield 100, 66, 8, 8, 0), (66, .ifCond .ge 29, 69, 95, 0, 0), (69, .aload_n 0, 70, 0, 0, 0), (70, .getfield 13, 73, 8, 1, 2), (73, .bipush 18, 75, 0, 0, 0), (75, .iaload, 76, 0, 0, 0), (76, .aload_n 0, 77, 0, 0, 0), (77, .getfield 13, 80, 8, 1, 2), (80, .bipush 19, 82, 0, 0, 0), (82, .iaload, 83, 0, 0, 0), (83, .iadd, 84, 0, 0, 0), (84, .iload_n 1, 85, 0, 0, 0), (85, .if_icmp .le 10, 88, 95, 0, 0), (88, .aload_n 0, 89, 0, 0, 0), (89, .getfield 147, 92, 8, 10, 0), (92, .goto 7, 95, 99, 0, 0), (95, .aload_n 0, 96, 0, 0, 0), (96, .getfield 100, 99, 8, 8, 0), (99, .putfield 100, 102, 8, 8, 0), (102, .aload_n 0, 103, 0, 0, 0), (103, .dup, 104, 0, 0, 0), (104, .getfield 147, 107, 8, 10, 0), (107, .iconst 1, 108, 0, 0, 0), (108, .iadd, 109, 0, 0, 0), (109, .putfield 147, 112, 8, 10, 0)]
def tb_M_goEvenings_1 : List (Nat × EN) := [(112, .goto (-98), 115, 14, 0, 0), (115, .bipush (-6), 117, 0, 0, 0), (117, .ireturn, 118, 0, 0, 0)]
def tb_M_goEvenings : List (Nat × EN) := tb_M_goEvenings_0 ++ tb_M_goEvenings_1
def tb_M_judge_0 : List (Nat × EN) := [(0, .iload_n 1, 1, 0, 0, 0), (1, .iconst 0, 2, 0, 0, 0), (2, .iconst 1, 3, 0, 0, 0), (3, .invokestatic 46, 6, 146, 0, 0), (6, .ifCond .ne 6, 9, 12, 0, 0), (9, .bipush (-2), 11, 0, 0, 0), (11, .ireturn, 12, 0, 0, 0), (12, .aload_n 0, 13, 0, 0, 0), (13, .invokevirtual 84, 16, 163, 1, 0), (16, .ifCond .lt 6, 19, 22, 0, 0), (19, .bipush (-5), 21, 0, 0, 0), (21, .ireturn, 22, 0, 0, 0), (22, .aload_n 0, 23, 0, 0, 0), (23, .invokevirtual 156, 26, 182, 1, 0), (26, .istore_n 2, 27, 0, 0, 0), (27, .iload_n 2, 28, 0, 0, 0), (28, .ifCond .lt 7, 31, 35, 0, 0), (31, .iload_n 1, 32, 0, 0, 0), (32, .ifCond .ne 7, 35, 39, 0, 0), (35, .iload_n 2, 36, 0, 0, 0), (36, .goto 7, 39, 43, 0, 0), (39, .aload_n 0, 40, 0, 0, 0), (40, .getfield 153, 43, 8, 9, 0), (43, .ireturn, 44, 0, 0, 0)]
def tb_M_judge : List (Nat × EN) := tb_M_judge_0
def tb_M_barOfEvenings_0 : List (Nat × EN) := [(0, .aload_n 0, 1, 0, 0, 0), (1, .invokevirtual 84, 4, 163, 1, 0), (4, .ifCond .ge 10, 7, 14, 0, 0), (7, .aload_n 0, 8, 0, 0, 0), (8, .invokevirtual 156, 11, 182, 1, 0), (11, .ifCond .lt 8, 14, 19, 0, 0), (14, .bipush (-5), 16, 0, 0, 0), (16, .goto 4, 19, 20, 0, 0), (19, .iconst 0, 20, 0, 0, 0), (20, .ireturn, 21, 0, 0, 0)]
def tb_M_barOfEvenings : List (Nat × EN) := tb_M_barOfEvenings_0
def tb_M_done_0 : List (Nat × EN) := [(0, .aload_n 0, 1, 0, 0, 0), (1, .invokevirtual 159, 4, 184, 1, 0), (4, .ifCond .ge 6, 7, 10, 0, 0), (7, .bipush (-5), 9, 0, 0, 0), (9, .ireturn, 10, 0, 0, 0), (10, .iconst 0, 11, 0, 0, 0), (11, .istore_n 1, 12, 0, 0, 0), (12, .iload_n 1, 13, 0, 0, 0), (13, .bipush 21, 15, 0, 0, 0), (15, .if_icmp .ge 21, 18, 36, 0, 0), (18, .aload_n 0, 19, 0, 0, 0), (19, .getfield 7, 22, 8, 0, 2), (22, .iload_n 1, 23, 0, 0, 0), (23, .aload_n 0, 24, 0, 0, 0), (24, .getfield 13, 27, 8, 1, 2), (27, .iload_n 1, 28, 0, 0, 0), (28, .iaload, 29, 0, 0, 0), (29, .iastore, 30, 0, 0, 0), (30, .iinc 1 1, 33, 0, 0, 0), (33, .goto (-21), 36, 12, 0, 0), (36, .aload_n 0, 37, 0, 0, 0), (37, .iconst 0, 38, 0, 0, 0), (38, .putfield 77, 41, 8, 4, 0), (41, .aload_n 0, 42, 0, 0, 0), (42, .getfield 147, 45, 8, 10, 0), (45, .ireturn, 46, 0, 0, 0)]
def tb_M_done : List (Nat × EN) := tb_M_done_0
def tb_M_behind_0 : List (Nat × EN) := [(0, .iload_n 1, 1, 0, 0, 0), (1, .invokestatic 62, 4, 148, 0, 0), (4, .ifCond .ne 5, 7, 9, 0, 0), (7, .iconst (-1), 8, 0, 0, 0), (8, .ireturn, 9, 0, 0, 0), (9, .iload_n 2, 10, 0, 0, 0), (10, .iconst 0, 11, 0, 0, 0), (11, .iconst 1, 12, 0, 0, 0), (12, .invokestatic 46, 15, 146, 0, 0), (15, .ifCond .ne 6, 18, 21, 0, 0), (18, .bipush (-2), 20, 0, 0, 0), (20, .ireturn, 21, 0, 0, 0), (21, .aload_n 0, 22, 0, 0, 0), (22, .invokevirtual 159, 25, 184, 1, 0), (25, .ifCond .ge 8, 28, 33, 0, 0), (28, .bipush (-5), 30, 0, 0, 0), (30, .goto 14, 33, 44, 0, 0), (33, .aload_n 0, 34, 0, 0, 0), (34, .getfield 13, 37, 8, 1, 2), (37, .bipush 8, 39, 0, 0, 0), (39, .iload_n 2, 40, 0, 0, 0), (40, .imul, 41, 0, 0, 0), (41, .iload_n 1, 42, 0, 0, 0), (42, .iadd, 43, 0, 0, 0), (43, .iaload, 44, 0, 0, 0), (44, .ireturn, 45, 0, 0, 0)]
def tb_M_behind : List (Nat × EN) := tb_M_behind_0
def tb_M_then_0 : List (Nat × EN) := [(0, .iload_n 1, 1, 0, 0, 0), (1, .iconst 0, 2, 0, 0, 0), (2, .bipush 6, 4, 0, 0, 0), (4, .invokestatic 46, 7, 146, 0, 0), (7, .ifCond .ne 6, 10, 13, 0, 0), (10, .bipush (-2), 12, 0, 0, 0), (12, .ireturn, 13, 0, 0, 0), (13, .aload_n 0, 14, 0, 0, 0), (14, .invokevirtual 159, 17, 184, 1, 0), (17, .ifCond .ge 6, 20, 23, 0, 0), (20, .bipush (-5), 22, 0, 0, 0), (22, .ireturn, 23, 0, 0, 0), (23, .iload_n 1, 24, 0, 0, 0), (24, .bipush 6, 26, 0, 0, 0), (26, .if_icmp .ne 8, 29, 34, 0, 0), (29, .aload_n 0, 30, 0, 0, 0), (30, .getfield 100, 33, 8, 8, 0), (33, .ireturn, 34, 0, 0, 0), (34, .iload_n 1, 35, 0, 0, 0), (35, .iconst 2, 36, 0, 0, 0), (36, .if_icmp .ge 15, 39, 51, 0, 0), (39, .aload_n 0, 40, 0, 0, 0), (40, .getfield 13, 43, 8, 1, 2), (43, .bipush 16, 45, 0, 0, 0), (45, .iload_n 1, 46, 0, 0, 0), (46, .iadd, 47, 0, 0, 0), (47, .iaload, 48, 0, 0, 0), (48, .goto 53, 51, 101, 0, 0), (51, .iload_n 1, 52, 0, 0, 0), (52, .iconst 2, 53, 0, 0, 0), (53, .if_icmp .le 15, 56, 68, 0, 0), (56, .aload_n 0, 57, 0, 0, 0), (57, .getfield 13, 60, 8, 1, 2), (60, .bipush 15, 62, 0, 0, 0), (62, .iload_n 1, 63, 0, 0, 0), (63, .iadd, 64, 0, 0, 0), (64, .iaload, 65, 0, 0, 0), (65, .goto 36, 68, 101, 0, 0), (68, .aload_n 0, 69, 0, 0, 0), (69, .getfield 13, 72, 8, 1, 2), (72, .bipush 16, 74, 0, 0, 0), (74, .iaload, 75, 0, 0, 0), (75, .ifCond .ge 8, 78, 83, 0, 0), (78, .bipush (-6), 80, 0, 0, 0), (80, .goto 21, 83, 101, 0, 0), (83, .aload_n 0, 84, 0, 0, 0), (84, .aload_n 0, 85, 0, 0, 0), (85, .getfield 13, 88, 8, 1, 2), (88, .bipush 16, 90, 0, 0, 0), (90, .iaload, 91, 0, 0, 0), (91, .aload_n 0, 92, 0, 0, 0), (92, .getfield 13, 95, 8, 1, 2), (95, .bipush 17, 97, 0, 0, 0), (97, .iaload, 98, 0, 0, 0), (98, .invokevirtual 88, 101, 165, 1, 0), (101, .ireturn, 102, 0, 0, 0)]
def tb_M_then : List (Nat × EN) := tb_M_then_0
def tb_M_ends_0 : List (Nat × EN) := [(0, .iload_n 1, 1, 0, 0, 0), (1, .bipush (-9), 3, 0, 0, 0), (3, .bipush 9, 5, 0, 0, 0), (5, .invokestatic 46, 8, 146, 0, 0), (8, .ifCond .ne 6, 11, 14, 0, 0), (11, .bipush (-2), 13, 0, 0, 0), (13, .ireturn, 14, 0, 0, 0), (14, .aload_n 0, 15, 0, 0, 0), (15, .invokevirtual 66, 18, 169, 1, 0), (18, .aload_n 0, 19, 0, 0, 0), (19, .getfield 13, 22, 8, 1, 2), (22, .bipush 16, 24, 0, 0, 0), (24, .iaload, 25, 0, 0, 0), (25, .ifCond .ge 8, 28, 33, 0, 0), (28, .bipush (-3), 30, 0, 0, 0), (30, .goto 8, 33, 38, 0, 0), (33, .aload_n 0, 34, 0, 0, 0), (34, .iload_n 1, 35, 0, 0, 0), (35, .invokevirtual 114, 38, 167, 1, 0), (38, .ireturn, 39, 0, 0, 0)]
def tb_M_ends : List (Nat × EN) := tb_M_ends_0
def tb_M_allIn_0 : List (Nat × EN) := [(0, .iconst 0, 1, 0, 0, 0), (1, .istore_n 1, 2, 0, 0, 0), (2, .bipush (-9), 4, 0, 0, 0), (4, .istore_n 2, 5, 0, 0, 0), (5, .iload_n 2, 6, 0, 0, 0), (6, .bipush 10, 8, 0, 0, 0), (8, .if_icmp .ge 32, 11, 40, 0, 0), (11, .iload_n 1, 12, 0, 0, 0), (12, .aload_n 0, 13, 0, 0, 0), (13, .iload_n 2, 14, 0, 0, 0), (14, .invokevirtual 114, 17, 167, 1, 0), (17, .bipush 8, 19, 0, 0, 0), (19, .if_icmp .ne 12, 22, 31, 0, 0), (22, .iconst 1, 23, 0, 0, 0), (23, .iload_n 2, 24, 0, 0, 0), (24, .bipush 9, 26, 0, 0, 0), (26, .iadd, 27, 0, 0, 0), (27, .ishl, 28, 0, 0, 0), (28, .goto 4, 31, 32, 0, 0), (31, .iconst 0, 32, 0, 0, 0), (32, .ior, 33, 0, 0, 0), (33, .istore_n 1, 34, 0, 0, 0), (34, .iinc 2 1, 37, 0, 0, 0), (37, .goto (-32), 40, 5, 0, 0), (40, .iload_n 1, 41, 0, 0, 0), (41, .ireturn, 42, 0, 0, 0)]
def tb_M_allIn : List (Nat × EN) := tb_M_allIn_0
def tb_M_goesIn_0 : List (Nat × EN) := [(0, .aload_n 0, 1, 0, 0, 0), (1, .invokevirtual 66, 4, 169, 1, 0), (4, .aload_n 0, 5, 0, 0, 0), (5, .getfield 13, 8, 8, 1, 2), (8, .bipush 16, 10, 0, 0, 0), (10, .iaload, 11, 0, 0, 0), (11, .ifCond .ge 8, 14, 19, 0, 0), (14, .bipush (-3), 16, 0, 0, 0), (16, .goto 7, 19, 23, 0, 0), (19, .aload_n 0, 20, 0, 0, 0), (20, .invokevirtual 162, 23, 189, 1, 0), (23, .ireturn, 24, 0, 0, 0)]
def tb_M_goesIn : List (Nat × EN) := tb_M_goesIn_0
def tb_M_passes_0 : List (Nat × EN) := [(0, .iload_n 1, 1, 0, 0, 0), (1, .iload_n 3, 2, 0, 0, 0), (2, .if_icmp .ne 25, 5, 27, 0, 0), (5, .iload 4, 7, 0, 0, 0), (7, .iload_n 2, 8, 0, 0, 0), (8, .iconst 1, 9, 0, 0, 0), (9, .iadd, 10, 0, 0, 0), (10, .if_icmp .eq 11, 13, 21, 0, 0), (13, .iload 4, 15, 0, 0, 0), (15, .iload_n 2, 16, 0, 0, 0), (16, .iconst 1, 17, 0, 0, 0), (17, .isub, 18, 0, 0, 0), (18, .if_icmp .ne 7, 21, 25, 0, 0), (21, .iconst 1, 22, 0, 0, 0), (22, .goto 4, 25, 26, 0, 0), (25, .iconst 0, 26, 0, 0, 0), (26, .ireturn, 27, 0, 0, 0), (27, .aload_n 0, 28, 0, 0, 0), (28, .iload_n 1, 29, 0, 0, 0), (29, .iload_n 2, 30, 0, 0, 0), (30, .iload_n 3, 31, 0, 0, 0), (31, .invokevirtual 110, 34, 168, 1, 0), (34, .iload_n 3, 35, 0, 0, 0), (35, .if_icmp .ne 16, 38, 51, 0, 0), (38, .aload_n 0, 39, 0, 0, 0), (39, .getfield 97, 42, 8, 7, 0), (42, .iload 4, 44, 0, 0, 0), (44, .if_icmp .ne 7, 47, 51, 0, 0), (47, .iconst 1, 48, 0, 0, 0), (48, .goto 4, 51, 52, 0, 0), (51, .iconst 0, 52, 0, 0, 0), (52, .ireturn, 53, 0, 0, 0)]
def tb_M_passes : List (Nat × EN) := tb_M_passes_0
def tb_M_path_0 : List (Nat × EN) := [(0, .iload_n 1, 1, 0, 0, 0), (1, .iload_n 2, 2, 0, 0, 0), (2, .invokestatic 73, 5, 154, 0, 0), (5, .ifCond .ne 5, 8, 10, 0, 0), (8, .iconst (-1), 9, 0, 0, 0), (9, .ireturn, 10, 0, 0, 0), (10, .iload_n 3, 11, 0, 0, 0), (11, .iconst 0, 12, 0, 0, 0), (12, .iconst 1, 13, 0, 0, 0), (13, .invokestatic 46, 16, 146, 0, 0), (16, .ifCond .ne 6, 19, 22, 0, 0), (19, .bipush (-2), 21, 0, 0, 0), (21, .ireturn, 22, 0, 0, 0), (22, .aload_n 0, 23, 0, 0, 0), (23, .invokevirtual 66, 26, 169, 1, 0), (26, .aload_n 0, 27, 0, 0, 0), (27, .getfield 13, 30, 8, 1, 2), (30, .bipush 16, 32, 0, 0, 0), (32, .iaload, 33, 0, 0, 0), (33, .ifCond .ge 6, 36, 39, 0, 0), (36, .bipush (-3), 38, 0, 0, 0), (38, .ireturn, 39, 0, 0, 0), (39, .iconst 0, 40, 0, 0, 0), (40, .istore 4, 42, 0, 0, 0), (42, .iload 4, 44, 0, 0, 0), (44, .bipush 40, 46, 0, 0, 0), (46, .if_icmp .ge 49, 49, 95, 0, 0), (49, .aload_n 0, 50, 0, 0, 0), (50, .getfield 22, 53, 8, 12, 2), (53, .iload 4, 55, 0, 0, 0), (55, .iload 4, 57, 0, 0, 0), (57, .iconst 5, 58, 0, 0, 0), (58, .iload_n 1, 59, 0, 0, 0), (59, .imul, 60, 0, 0, 0), (60, .iload_n 2, 61, 0, 0, 0), (61, .iadd, 62, 0, 0, 0), (62, .if_icmp .ne 24, 65, 86, 0, 0), (65, .iload_n 1, 66, 0, 0, 0), (66, .invokestatic 50, 69, 149, 0, 0), (69, .aload_n 0, 70, 0, 0, 0), (70, .getfield 13, 73, 8, 1, 2), (73, .bipush 16, 75, 0, 0, 0), (75, .iaload, 76, 0, 0, 0), (76, .invokestatic 50, 79, 149, 0, 0), (79, .if_icmp .ne 7, 82, 86, 0, 0), (82, .iconst 0, 83, 0, 0, 0), (83, .goto 5, 86, 88, 0, 0), (86, .ldc 165, 88, 0, 0, 1000000), (88, .iastore, 89, 0, 0, 0), (89, .iinc 4 1, 92, 0, 0, 0), (92, .goto (-50), 95, 42, 0, 0), (95, .iconst 1, 96, 0, 0, 0), (96, .istore 4, 98, 0, 0, 0), (98, .iload 4, 100, 0, 0, 0), (100, .ifCond .eq 130, 103, 230, 0, 0), (103, .iconst 0, 104, 0, 0, 0), (104, .istore 4, 106, 0, 0, 0), (106, .iconst 0, 107, 0, 0, 0), (107, .istore 5, 109, 0, 0, 0), (109, .iload 5, 111, 0, 0, 0)]
def tb_M_path_1 : List (Nat × EN) := [(111, .bipush 40, 113, 0, 0, 0), (113, .if_icmp .ge 114, 116, 227, 0, 0), (116, .iconst 0, 117, 0, 0, 0), (117, .istore 6, 119, 0, 0, 0), (119, .iload 6, 121, 0, 0, 0), (121, .bipush 40, 123, 0, 0, 0), (123, .if_icmp .ge 98, 126, 221, 0, 0), (126, .iload 5, 128, 0, 0, 0), (128, .iconst 5, 129, 0, 0, 0), (129, .idiv, 130, 0, 0, 0), (130, .iload 5, 132, 0, 0, 0), (132, .iconst 5, 133, 0, 0, 0), (133, .irem, 134, 0, 0, 0), (134, .invokestatic 73, 137, 154, 0, 0), (137, .ifCond .eq 78, 140, 215, 0, 0), (140, .iload 6, 142, 0, 0, 0), (142, .iconst 5, 143, 0, 0, 0), (143, .idiv, 144, 0, 0, 0), (144, .iload 6, 146, 0, 0, 0), (146, .iconst 5, 147, 0, 0, 0), (147, .irem, 148, 0, 0, 0), (148, .invokestatic 73, 151, 154, 0, 0), (151, .ifCond .eq 64, 154, 215, 0, 0), (154, .aload_n 0, 155, 0, 0, 0), (155, .getfield 22, 158, 8, 12, 2), (158, .iload 6, 160, 0, 0, 0), (160, .iaload, 161, 0, 0, 0), (161, .iconst 1, 162, 0, 0, 0), (162, .iadd, 163, 0, 0, 0), (163, .aload_n 0, 164, 0, 0, 0), (164, .getfield 22, 167, 8, 12, 2), (167, .iload 5, 169, 0, 0, 0), (169, .iaload, 170, 0, 0, 0), (170, .if_icmp .ge 45, 173, 215, 0, 0), (173, .aload_n 0, 174, 0, 0, 0), (174, .iload 5, 176, 0, 0, 0), (176, .iconst 5, 177, 0, 0, 0), (177, .idiv, 178, 0, 0, 0), (178, .iload 5, 180, 0, 0, 0), (180, .iconst 5, 181, 0, 0, 0), (181, .irem, 182, 0, 0, 0), (182, .iload 6, 184, 0, 0, 0), (184, .iconst 5, 185, 0, 0, 0), (185, .idiv, 186, 0, 0, 0), (186, .iload 6, 188, 0, 0, 0), (188, .iconst 5, 189, 0, 0, 0), (189, .irem, 190, 0, 0, 0), (190, .invokevirtual 166, 193, 191, 1, 0), (193, .ifCond .eq 22, 196, 215, 0, 0), (196, .aload_n 0, 197, 0, 0, 0), (197, .getfield 22, 200, 8, 12, 2), (200, .iload 5, 202, 0, 0, 0), (202, .aload_n 0, 203, 0, 0, 0), (203, .getfield 22, 206, 8, 12, 2), (206, .iload 6, 208, 0, 0, 0), (208, .iaload, 209, 0, 0, 0), (209, .iconst 1, 210, 0, 0, 0), (210, .iadd, 211, 0, 0, 0), (211, .iastore, 212, 0, 0, 0), (212, .iconst 1, 213, 0, 0, 0)]
def tb_M_path_2 : List (Nat × EN) := [(213, .istore 4, 215, 0, 0, 0), (215, .iinc 6 1, 218, 0, 0, 0), (218, .goto (-99), 221, 119, 0, 0), (221, .iinc 5 1, 224, 0, 0, 0), (224, .goto (-115), 227, 109, 0, 0), (227, .goto (-129), 230, 98, 0, 0), (230, .aload_n 0, 231, 0, 0, 0), (231, .getfield 22, 234, 8, 12, 2), (234, .iconst 5, 235, 0, 0, 0), (235, .aload_n 0, 236, 0, 0, 0), (236, .getfield 13, 239, 8, 1, 2), (239, .bipush 16, 241, 0, 0, 0), (241, .iaload, 242, 0, 0, 0), (242, .imul, 243, 0, 0, 0), (243, .aload_n 0, 244, 0, 0, 0), (244, .getfield 13, 247, 8, 1, 2), (247, .bipush 17, 249, 0, 0, 0), (249, .iaload, 250, 0, 0, 0), (250, .iadd, 251, 0, 0, 0), (251, .iaload, 252, 0, 0, 0), (252, .istore 5, 254, 0, 0, 0), (254, .iload 5, 256, 0, 0, 0), (256, .ldc 165, 258, 0, 0, 1000000), (258, .if_icmp .ge 7, 261, 265, 0, 0), (261, .iload_n 3, 262, 0, 0, 0), (262, .ifCond .ne 18, 265, 280, 0, 0), (265, .iload 5, 267, 0, 0, 0), (267, .ldc 165, 269, 0, 0, 1000000), (269, .if_icmp .lt 8, 272, 277, 0, 0), (272, .bipush (-6), 274, 0, 0, 0), (274, .goto 5, 277, 279, 0, 0), (277, .iload 5, 279, 0, 0, 0), (279, .ireturn, 280, 0, 0, 0), (280, .iconst 0, 281, 0, 0, 0), (281, .istore 6, 283, 0, 0, 0), (283, .iload 6, 285, 0, 0, 0), (285, .bipush 40, 287, 0, 0, 0), (287, .if_icmp .ge 84, 290, 371, 0, 0), (290, .iload 5, 292, 0, 0, 0), (292, .ifCond .le 73, 295, 365, 0, 0), (295, .iload 6, 297, 0, 0, 0), (297, .iconst 5, 298, 0, 0, 0), (298, .idiv, 299, 0, 0, 0), (299, .iload 6, 301, 0, 0, 0), (301, .iconst 5, 302, 0, 0, 0), (302, .irem, 303, 0, 0, 0), (303, .invokestatic 73, 306, 154, 0, 0), (306, .ifCond .eq 59, 309, 365, 0, 0), (309, .aload_n 0, 310, 0, 0, 0), (310, .getfield 22, 313, 8, 12, 2), (313, .iload 6, 315, 0, 0, 0), (315, .iaload, 316, 0, 0, 0), (316, .iconst 1, 317, 0, 0, 0), (317, .iadd, 318, 0, 0, 0), (318, .iload 5, 320, 0, 0, 0), (320, .if_icmp .ne 45, 323, 365, 0, 0), (323, .aload_n 0, 324, 0, 0, 0), (324, .aload_n 0, 325, 0, 0, 0), (325, .getfield 13, 328, 8, 1, 2), (328, .bipush 16, 330, 0, 0, 0)]
def tb_M_path_3 : List (Nat × EN) := [(330, .iaload, 331, 0, 0, 0), (331, .aload_n 0, 332, 0, 0, 0), (332, .getfield 13, 335, 8, 1, 2), (335, .bipush 17, 337, 0, 0, 0), (337, .iaload, 338, 0, 0, 0), (338, .iload 6, 340, 0, 0, 0), (340, .iconst 5, 341, 0, 0, 0), (341, .idiv, 342, 0, 0, 0), (342, .iload 6, 344, 0, 0, 0), (344, .iconst 5, 345, 0, 0, 0), (345, .irem, 346, 0, 0, 0), (346, .invokevirtual 166, 349, 191, 1, 0), (349, .ifCond .eq 16, 352, 365, 0, 0), (352, .bipush 10, 354, 0, 0, 0), (354, .iload 6, 356, 0, 0, 0), (356, .iconst 5, 357, 0, 0, 0), (357, .idiv, 358, 0, 0, 0), (358, .imul, 359, 0, 0, 0), (359, .iload 6, 361, 0, 0, 0), (361, .iconst 5, 362, 0, 0, 0), (362, .irem, 363, 0, 0, 0), (363, .iadd, 364, 0, 0, 0), (364, .ireturn, 365, 0, 0, 0), (365, .iinc 6 1, 368, 0, 0, 0), (368, .goto (-85), 371, 283, 0, 0), (371, .bipush (-6), 373, 0, 0, 0), (373, .ireturn, 374, 0, 0, 0)]
def tb_M_path : List (Nat × EN) := tb_M_path_0 ++ tb_M_path_1 ++ tb_M_path_2 ++ tb_M_path_3
def tb_M_stand_0 : List (Nat × EN) := [(0, .iload_n 1, 1, 0, 0, 0), (1, .iconst 0, 2, 0, 0, 0), (2, .iconst 1, 3, 0, 0, 0), (3, .invokestatic 46, 6, 146, 0, 0), (6, .ifCond .ne 6, 9, 12, 0, 0), (9, .bipush (-2), 11, 0, 0, 0), (11, .ireturn, 12, 0, 0, 0), (12, .aload_n 0, 13, 0, 0, 0), (13, .invokevirtual 66, 16, 169, 1, 0), (16, .aload_n 0, 17, 0, 0, 0), (17, .getfield 13, 20, 8, 1, 2), (20, .bipush 16, 22, 0, 0, 0), (22, .iaload, 23, 0, 0, 0), (23, .ifCond .ge 6, 26, 29, 0, 0), (26, .bipush (-3), 28, 0, 0, 0), (28, .ireturn, 29, 0, 0, 0), (29, .aload_n 0, 30, 0, 0, 0), (30, .getfield 13, 33, 8, 1, 2), (33, .bipush 16, 35, 0, 0, 0), (35, .iaload, 36, 0, 0, 0), (36, .invokestatic 50, 39, 149, 0, 0), (39, .ifCond .ne 8, 42, 47, 0, 0), (42, .bipush 7, 44, 0, 0, 0), (44, .goto 4, 47, 48, 0, 0), (47, .iconst 0, 48, 0, 0, 0), (48, .istore_n 2, 49, 0, 0, 0), (49, .aload_n 0, 50, 0, 0, 0), (50, .getfield 13, 53, 8, 1, 2), (53, .bipush 16, 55, 0, 0, 0), (55, .iaload, 56, 0, 0, 0), (56, .invokestatic 50, 59, 149, 0, 0), (59, .ifCond .ne 8, 62, 67, 0, 0), (62, .bipush 6, 64, 0, 0, 0), (64, .goto 4, 67, 68, 0, 0), (67, .iconst 1, 68, 0, 0, 0), (68, .istore_n 3, 69, 0, 0, 0), (69, .ldc 165, 71, 0, 0, 1000000), (71, .istore 4, 73, 0, 0, 0), (73, .iconst 0, 74, 0, 0, 0), (74, .istore 5, 76, 0, 0, 0), (76, .iconst 0, 77, 0, 0, 0), (77, .istore 6, 79, 0, 0, 0), (79, .iload 6, 81, 0, 0, 0), (81, .bipush 41, 83, 0, 0, 0), (83, .if_icmp .ge 88, 86, 171, 0, 0), (86, .iconst 0, 87, 0, 0, 0), (87, .istore 7, 89, 0, 0, 0), (89, .iload 7, 91, 0, 0, 0), (91, .bipush 25, 93, 0, 0, 0), (93, .if_icmp .ge 72, 96, 165, 0, 0), (96, .aload_n 0, 97, 0, 0, 0), (97, .getfield 13, 100, 8, 1, 2), (100, .iload_n 2, 101, 0, 0, 0), (101, .iload 6, 103, 0, 0, 0), (103, .iastore, 104, 0, 0, 0), (104, .aload_n 0, 105, 0, 0, 0), (105, .getfield 13, 108, 8, 1, 2), (108, .iload_n 3, 109, 0, 0, 0), (109, .iload 7, 111, 0, 0, 0), (111, .iastore, 112, 0, 0, 0)]
def tb_M_stand_1 : List (Nat × EN) := [(112, .aload_n 0, 113, 0, 0, 0), (113, .invokevirtual 162, 116, 189, 1, 0), (116, .invokestatic 170, 119, 147, 0, 0), (119, .istore 8, 121, 0, 0, 0), (121, .iload 8, 123, 0, 0, 0), (123, .iload 4, 125, 0, 0, 0), (125, .if_icmp .ge 14, 128, 139, 0, 0), (128, .bipush 100, 130, 0, 0, 0), (130, .iload 6, 132, 0, 0, 0), (132, .imul, 133, 0, 0, 0), (133, .iload 7, 135, 0, 0, 0), (135, .iadd, 136, 0, 0, 0), (136, .goto 5, 139, 141, 0, 0), (139, .iload 5, 141, 0, 0, 0), (141, .istore 5, 143, 0, 0, 0), (143, .iload 8, 145, 0, 0, 0), (145, .iload 4, 147, 0, 0, 0), (147, .if_icmp .ge 8, 150, 155, 0, 0), (150, .iload 8, 152, 0, 0, 0), (152, .goto 5, 155, 157, 0, 0), (155, .iload 4, 157, 0, 0, 0), (157, .istore 4, 159, 0, 0, 0), (159, .iinc 7 1, 162, 0, 0, 0), (162, .goto (-73), 165, 89, 0, 0), (165, .iinc 6 1, 168, 0, 0, 0), (168, .goto (-89), 171, 79, 0, 0), (171, .iload_n 1, 172, 0, 0, 0), (172, .ifCond .ne 8, 175, 180, 0, 0), (175, .iload 4, 177, 0, 0, 0), (177, .goto 5, 180, 182, 0, 0), (180, .iload 5, 182, 0, 0, 0), (182, .ireturn, 183, 0, 0, 0)]
def tb_M_stand : List (Nat × EN) := tb_M_stand_0 ++ tb_M_stand_1
def tb_M_lowest_0 : List (Nat × EN) := [(0, .lload_n 0, 1, 0, 0, 0), (1, .lconst 0, 2, 0, 0, 0), (2, .lcmp, 3, 0, 0, 0), (3, .ifCond .ge 8, 6, 11, 0, 0), (6, .lload_n 0, 7, 0, 0, 0), (7, .lneg, 8, 0, 0, 0), (8, .goto 4, 11, 12, 0, 0), (11, .lload_n 0, 12, 0, 0, 0), (12, .lstore 5, 14, 0, 0, 0), (14, .lload_n 2, 15, 0, 0, 0), (15, .lconst 0, 16, 0, 0, 0), (16, .lcmp, 17, 0, 0, 0), (17, .ifCond .ge 8, 20, 25, 0, 0), (20, .lload_n 2, 21, 0, 0, 0), (21, .lneg, 22, 0, 0, 0), (22, .goto 4, 25, 26, 0, 0), (25, .lload_n 2, 26, 0, 0, 0), (26, .lstore 7, 28, 0, 0, 0), (28, .lload 5, 30, 0, 0, 0), (30, .lstore 9, 32, 0, 0, 0), (32, .lload 7, 34, 0, 0, 0), (34, .lstore 11, 36, 0, 0, 0), (36, .lload 11, 38, 0, 0, 0), (38, .lconst 0, 39, 0, 0, 0), (39, .lcmp, 40, 0, 0, 0), (40, .ifCond .eq 21, 43, 61, 0, 0), (43, .lload 9, 45, 0, 0, 0), (45, .lload 11, 47, 0, 0, 0), (47, .lrem, 48, 0, 0, 0), (48, .lstore 13, 50, 0, 0, 0), (50, .lload 11, 52, 0, 0, 0), (52, .lstore 9, 54, 0, 0, 0), (54, .lload 13, 56, 0, 0, 0), (56, .lstore 11, 58, 0, 0, 0), (58, .goto (-22), 61, 36, 0, 0), (61, .iload 4, 63, 0, 0, 0), (63, .ifCond .ne 11, 66, 74, 0, 0), (66, .lload 5, 68, 0, 0, 0), (68, .lload 9, 70, 0, 0, 0), (70, .ldiv, 71, 0, 0, 0), (71, .goto 8, 74, 79, 0, 0), (74, .lload 7, 76, 0, 0, 0), (76, .lload 9, 78, 0, 0, 0), (78, .ldiv, 79, 0, 0, 0), (79, .lreturn, 80, 0, 0, 0)]
def tb_M_lowest : List (Nat × EN) := tb_M_lowest_0
def tb_M_mix_0 : List (Nat × EN) := [(0, .iload_n 1, 1, 0, 0, 0), (1, .iconst 0, 2, 0, 0, 0), (2, .bipush 10, 4, 0, 0, 0), (4, .invokestatic 46, 7, 146, 0, 0), (7, .ifCond .eq 54, 10, 61, 0, 0), (10, .iload_n 2, 11, 0, 0, 0), (11, .iconst 0, 12, 0, 0, 0), (12, .bipush 10, 14, 0, 0, 0), (14, .invokestatic 46, 17, 146, 0, 0), (17, .ifCond .eq 44, 20, 61, 0, 0), (20, .iload_n 3, 21, 0, 0, 0), (21, .iconst 0, 22, 0, 0, 0), (22, .bipush 10, 24, 0, 0, 0), (24, .invokestatic 46, 27, 146, 0, 0), (27, .ifCond .eq 34, 30, 61, 0, 0), (30, .iload 4, 32, 0, 0, 0), (32, .iconst 0, 33, 0, 0, 0), (33, .bipush 10, 35, 0, 0, 0), (35, .invokestatic 46, 38, 146, 0, 0), (38, .ifCond .eq 23, 41, 61, 0, 0), (41, .iload 5, 43, 0, 0, 0), (43, .iconst 0, 44, 0, 0, 0), (44, .iconst 1, 45, 0, 0, 0), (45, .invokestatic 46, 48, 146, 0, 0), (48, .ifCond .eq 13, 51, 61, 0, 0), (51, .iload 6, 53, 0, 0, 0), (53, .iconst 0, 54, 0, 0, 0), (54, .iconst 1, 55, 0, 0, 0), (55, .invokestatic 46, 58, 146, 0, 0), (58, .ifCond .ne 7, 61, 65, 0, 0), (61, .ldc2_w 173, 64, 0, 0, -1000000000000000002), (64, .lreturn, 65, 0, 0, 0), (65, .iload_n 1, 66, 0, 0, 0), (66, .iload_n 2, 67, 0, 0, 0), (67, .if_icmp .ge 7, 70, 74, 0, 0), (70, .iload_n 1, 71, 0, 0, 0), (71, .goto 4, 74, 75, 0, 0), (74, .iload_n 2, 75, 0, 0, 0), (75, .istore 7, 77, 0, 0, 0), (77, .iload_n 3, 78, 0, 0, 0), (78, .iload 4, 80, 0, 0, 0), (80, .if_icmp .ge 7, 83, 87, 0, 0), (83, .iload_n 3, 84, 0, 0, 0), (84, .goto 5, 87, 89, 0, 0), (87, .iload 4, 89, 0, 0, 0), (89, .istore 8, 91, 0, 0, 0), (91, .iload_n 1, 92, 0, 0, 0), (92, .iload_n 3, 93, 0, 0, 0), (93, .if_icmp .le 7, 96, 100, 0, 0), (96, .iload_n 1, 97, 0, 0, 0), (97, .goto 4, 100, 101, 0, 0), (100, .iload_n 3, 101, 0, 0, 0), (101, .istore 9, 103, 0, 0, 0), (103, .iload_n 2, 104, 0, 0, 0), (104, .iload 4, 106, 0, 0, 0), (106, .if_icmp .le 7, 109, 113, 0, 0), (109, .iload_n 2, 110, 0, 0, 0), (110, .goto 5, 113, 115, 0, 0), (113, .iload 4, 115, 0, 0, 0), (115, .istore 10, 117, 0, 0, 0)]
def tb_M_mix_1 : List (Nat × EN) := [(117, .iload 7, 119, 0, 0, 0), (119, .iload 8, 121, 0, 0, 0), (121, .if_icmp .le 8, 124, 129, 0, 0), (124, .iload 7, 126, 0, 0, 0), (126, .goto 5, 129, 131, 0, 0), (129, .iload 8, 131, 0, 0, 0), (131, .istore 11, 133, 0, 0, 0), (133, .iload 11, 135, 0, 0, 0), (135, .iload 9, 137, 0, 0, 0), (137, .iload 10, 139, 0, 0, 0), (139, .if_icmp .ge 8, 142, 147, 0, 0), (142, .iload 9, 144, 0, 0, 0), (144, .goto 5, 147, 149, 0, 0), (147, .iload 10, 149, 0, 0, 0), (149, .if_icmp .ne 45, 152, 194, 0, 0), (152, .iload 5, 154, 0, 0, 0), (154, .ifCond .ne 17, 157, 171, 0, 0), (157, .iload 11, 159, 0, 0, 0), (159, .i2l, 160, 0, 0, 0), (160, .ldc2_w 175, 163, 0, 0, 10), (163, .iload 6, 165, 0, 0, 0), (165, .invokestatic 177, 168, 194, 0, 0), (168, .goto 25, 171, 193, 0, 0), (171, .iload 6, 173, 0, 0, 0), (173, .iconst 1, 174, 0, 0, 0), (174, .if_icmp .ne 7, 177, 181, 0, 0), (177, .lconst 1, 178, 0, 0, 0), (178, .goto 15, 181, 193, 0, 0), (181, .iload 7, 183, 0, 0, 0), (183, .iload 11, 185, 0, 0, 0), (185, .if_icmp .ne 7, 188, 192, 0, 0), (188, .lconst 1, 189, 0, 0, 0), (189, .goto 4, 192, 193, 0, 0), (192, .lconst 0, 193, 0, 0, 0), (193, .lreturn, 194, 0, 0, 0), (194, .iload_n 1, 195, 0, 0, 0), (195, .iload_n 2, 196, 0, 0, 0), (196, .isub, 197, 0, 0, 0), (197, .iload_n 3, 198, 0, 0, 0), (198, .isub, 199, 0, 0, 0), (199, .iload 4, 201, 0, 0, 0), (201, .iadd, 202, 0, 0, 0), (202, .i2l, 203, 0, 0, 0), (203, .lstore 12, 205, 0, 0, 0), (205, .iload 5, 207, 0, 0, 0), (207, .ifCond .ne 29, 210, 236, 0, 0), (210, .iload_n 1, 211, 0, 0, 0), (211, .i2l, 212, 0, 0, 0), (212, .iload 4, 214, 0, 0, 0), (214, .i2l, 215, 0, 0, 0), (215, .lmul, 216, 0, 0, 0), (216, .iload_n 2, 217, 0, 0, 0), (217, .i2l, 218, 0, 0, 0), (218, .iload_n 3, 219, 0, 0, 0), (219, .i2l, 220, 0, 0, 0), (220, .lmul, 221, 0, 0, 0), (221, .lsub, 222, 0, 0, 0), (222, .ldc2_w 175, 225, 0, 0, 10), (225, .lload 12, 227, 0, 0, 0), (227, .lmul, 228, 0, 0, 0)]
def tb_M_mix_2 : List (Nat × EN) := [(228, .iload 6, 230, 0, 0, 0), (230, .invokestatic 177, 233, 194, 0, 0), (233, .goto 15, 236, 248, 0, 0), (236, .iload 4, 238, 0, 0, 0), (238, .iload_n 3, 239, 0, 0, 0), (239, .isub, 240, 0, 0, 0), (240, .i2l, 241, 0, 0, 0), (241, .lload 12, 243, 0, 0, 0), (243, .iload 6, 245, 0, 0, 0), (245, .invokestatic 177, 248, 194, 0, 0), (248, .lreturn, 249, 0, 0, 0)]
def tb_M_mix : List (Nat × EN) := tb_M_mix_0 ++ tb_M_mix_1 ++ tb_M_mix_2
def tb_M_hands_0 : List (Nat × EN) := [(0, .iload_n 2, 1, 0, 0, 0), (1, .iconst 1, 2, 0, 0, 0), (2, .bipush 9, 4, 0, 0, 0), (4, .invokestatic 46, 7, 146, 0, 0), (7, .ifCond .eq 7, 10, 14, 0, 0), (10, .iload_n 1, 11, 0, 0, 0), (11, .ifCond .ge 6, 14, 17, 0, 0), (14, .bipush (-2), 16, 0, 0, 0), (16, .ireturn, 17, 0, 0, 0), (17, .iload_n 1, 18, 0, 0, 0), (18, .istore_n 3, 19, 0, 0, 0), (19, .iconst 1, 20, 0, 0, 0), (20, .istore 4, 22, 0, 0, 0), (22, .iconst 1, 23, 0, 0, 0), (23, .istore 5, 25, 0, 0, 0), (25, .iconst 0, 26, 0, 0, 0), (26, .istore 6, 28, 0, 0, 0), (28, .iload 6, 30, 0, 0, 0), (30, .iload_n 2, 31, 0, 0, 0), (31, .if_icmp .ge 51, 34, 82, 0, 0), (34, .iload 5, 36, 0, 0, 0), (36, .ifCond .eq 15, 39, 51, 0, 0), (39, .iload_n 3, 40, 0, 0, 0), (40, .bipush 10, 42, 0, 0, 0), (42, .irem, 43, 0, 0, 0), (43, .iconst 4, 44, 0, 0, 0), (44, .if_icmp .ge 7, 47, 51, 0, 0), (47, .iconst 1, 48, 0, 0, 0), (48, .goto 4, 51, 52, 0, 0), (51, .iconst 0, 52, 0, 0, 0), (52, .istore 5, 54, 0, 0, 0), (54, .iload_n 3, 55, 0, 0, 0), (55, .bipush 10, 57, 0, 0, 0), (57, .idiv, 58, 0, 0, 0), (58, .istore_n 3, 59, 0, 0, 0), (59, .iload 6, 61, 0, 0, 0), (61, .ifCond .le 11, 64, 72, 0, 0), (64, .bipush 10, 66, 0, 0, 0), (66, .iload 4, 68, 0, 0, 0), (68, .imul, 69, 0, 0, 0), (69, .goto 5, 72, 74, 0, 0), (72, .iload 4, 74, 0, 0, 0), (74, .istore 4, 76, 0, 0, 0), (76, .iinc 6 1, 79, 0, 0, 0), (79, .goto (-51), 82, 28, 0, 0), (82, .iload 5, 84, 0, 0, 0), (84, .ifCond .eq 7, 87, 91, 0, 0), (87, .iload_n 3, 88, 0, 0, 0), (88, .ifCond .le 6, 91, 94, 0, 0), (91, .bipush (-2), 93, 0, 0, 0), (93, .ireturn, 94, 0, 0, 0), (94, .iconst 0, 95, 0, 0, 0), (95, .istore 6, 97, 0, 0, 0), (97, .iload 6, 99, 0, 0, 0), (99, .bipush 16, 101, 0, 0, 0), (101, .if_icmp .ge 27, 104, 128, 0, 0), (104, .aload_n 0, 105, 0, 0, 0), (105, .getfield 25, 108, 8, 13, 2), (108, .iload 6, 110, 0, 0, 0), (110, .iload 6, 112, 0, 0, 0)]
def tb_M_hands_1 : List (Nat × EN) := [(112, .ifCond .ne 7, 115, 119, 0, 0), (115, .iconst 0, 116, 0, 0, 0), (116, .goto 5, 119, 121, 0, 0), (119, .ldc 165, 121, 0, 0, 1000000), (121, .iastore, 122, 0, 0, 0), (122, .iinc 6 1, 125, 0, 0, 0), (125, .goto (-28), 128, 97, 0, 0), (128, .iconst 0, 129, 0, 0, 0), (129, .istore 6, 131, 0, 0, 0), (131, .iload 6, 133, 0, 0, 0), (133, .iload_n 2, 134, 0, 0, 0), (134, .if_icmp .ge 199, 137, 333, 0, 0), (137, .iload_n 1, 138, 0, 0, 0), (138, .iload 4, 140, 0, 0, 0), (140, .idiv, 141, 0, 0, 0), (141, .bipush 10, 143, 0, 0, 0), (143, .irem, 144, 0, 0, 0), (144, .istore 7, 146, 0, 0, 0), (146, .iload 4, 148, 0, 0, 0), (148, .bipush 10, 150, 0, 0, 0), (150, .idiv, 151, 0, 0, 0), (151, .istore 4, 153, 0, 0, 0), (153, .iconst 0, 154, 0, 0, 0), (154, .istore 8, 156, 0, 0, 0), (156, .iload 8, 158, 0, 0, 0), (158, .bipush 16, 160, 0, 0, 0), (160, .if_icmp .ge 18, 163, 178, 0, 0), (163, .aload_n 0, 164, 0, 0, 0), (164, .getfield 28, 167, 8, 14, 2), (167, .iload 8, 169, 0, 0, 0), (169, .ldc 165, 171, 0, 0, 1000000), (171, .iastore, 172, 0, 0, 0), (172, .iinc 8 1, 175, 0, 0, 0), (175, .goto (-19), 178, 156, 0, 0), (178, .iconst 0, 179, 0, 0, 0), (179, .istore 8, 181, 0, 0, 0), (181, .iload 8, 183, 0, 0, 0), (183, .bipush 16, 185, 0, 0, 0), (185, .if_icmp .ge 112, 188, 297, 0, 0), (188, .iload 8, 190, 0, 0, 0), (190, .iload 7, 192, 0, 0, 0), (192, .ishr, 193, 0, 0, 0), (193, .iconst 1, 194, 0, 0, 0), (194, .iand, 195, 0, 0, 0), (195, .iconst 1, 196, 0, 0, 0), (196, .if_icmp .ne 7, 199, 203, 0, 0), (199, .iconst 1, 200, 0, 0, 0), (200, .goto 4, 203, 204, 0, 0), (203, .iconst 0, 204, 0, 0, 0), (204, .istore 9, 206, 0, 0, 0), (206, .aload_n 0, 207, 0, 0, 0), (207, .getfield 25, 210, 8, 13, 2), (210, .iload 8, 212, 0, 0, 0), (212, .iaload, 213, 0, 0, 0), (213, .iload 9, 215, 0, 0, 0), (215, .ifCond .eq 7, 218, 222, 0, 0), (218, .iconst 0, 219, 0, 0, 0), (219, .goto 4, 222, 223, 0, 0), (222, .iconst 1, 223, 0, 0, 0), (223, .iadd, 224, 0, 0, 0)]
def tb_M_hands_2 : List (Nat × EN) := [(224, .istore 10, 226, 0, 0, 0), (226, .iconst 0, 227, 0, 0, 0), (227, .istore 11, 229, 0, 0, 0), (229, .iload 11, 231, 0, 0, 0), (231, .bipush 16, 233, 0, 0, 0), (233, .if_icmp .ge 58, 236, 291, 0, 0), (236, .iload 11, 238, 0, 0, 0), (238, .iconst 1, 239, 0, 0, 0), (239, .iload 7, 241, 0, 0, 0), (241, .ishl, 242, 0, 0, 0), (242, .ior, 243, 0, 0, 0), (243, .istore 12, 245, 0, 0, 0), (245, .iload 11, 247, 0, 0, 0), (247, .iload 8, 249, 0, 0, 0), (249, .iconst (-1), 250, 0, 0, 0), (250, .ixor, 251, 0, 0, 0), (251, .iand, 252, 0, 0, 0), (252, .ifCond .ne 33, 255, 285, 0, 0), (255, .iload 12, 257, 0, 0, 0), (257, .invokestatic 170, 260, 147, 0, 0), (260, .iconst 3, 261, 0, 0, 0), (261, .if_icmp .ge 24, 264, 285, 0, 0), (264, .iload 10, 266, 0, 0, 0), (266, .aload_n 0, 267, 0, 0, 0), (267, .getfield 28, 270, 8, 14, 2), (270, .iload 12, 272, 0, 0, 0), (272, .iaload, 273, 0, 0, 0), (273, .if_icmp .ge 12, 276, 285, 0, 0), (276, .aload_n 0, 277, 0, 0, 0), (277, .getfield 28, 280, 8, 14, 2), (280, .iload 12, 282, 0, 0, 0), (282, .iload 10, 284, 0, 0, 0), (284, .iastore, 285, 0, 0, 0), (285, .iinc 11 1, 288, 0, 0, 0), (288, .goto (-59), 291, 229, 0, 0), (291, .iinc 8 1, 294, 0, 0, 0), (294, .goto (-113), 297, 181, 0, 0), (297, .iconst 0, 298, 0, 0, 0), (298, .istore 8, 300, 0, 0, 0), (300, .iload 8, 302, 0, 0, 0), (302, .bipush 16, 304, 0, 0, 0), (304, .if_icmp .ge 23, 307, 327, 0, 0), (307, .aload_n 0, 308, 0, 0, 0), (308, .getfield 25, 311, 8, 13, 2), (311, .iload 8, 313, 0, 0, 0), (313, .aload_n 0, 314, 0, 0, 0), (314, .getfield 28, 317, 8, 14, 2), (317, .iload 8, 319, 0, 0, 0), (319, .iaload, 320, 0, 0, 0), (320, .iastore, 321, 0, 0, 0), (321, .iinc 8 1, 324, 0, 0, 0), (324, .goto (-24), 327, 300, 0, 0), (327, .iinc 6 1, 330, 0, 0, 0), (330, .goto (-199), 333, 131, 0, 0), (333, .ldc 165, 335, 0, 0, 1000000), (335, .istore 6, 337, 0, 0, 0), (337, .iconst 0, 338, 0, 0, 0), (338, .istore 7, 340, 0, 0, 0), (340, .iload 7, 342, 0, 0, 0), (342, .bipush 16, 344, 0, 0, 0)]
def tb_M_hands_3 : List (Nat × EN) := [(344, .if_icmp .ge 35, 347, 379, 0, 0), (347, .aload_n 0, 348, 0, 0, 0), (348, .getfield 25, 351, 8, 13, 2), (351, .iload 7, 353, 0, 0, 0), (353, .iaload, 354, 0, 0, 0), (354, .iload 6, 356, 0, 0, 0), (356, .if_icmp .ge 13, 359, 369, 0, 0), (359, .aload_n 0, 360, 0, 0, 0), (360, .getfield 25, 363, 8, 13, 2), (363, .iload 7, 365, 0, 0, 0), (365, .iaload, 366, 0, 0, 0), (366, .goto 5, 369, 371, 0, 0), (369, .iload 6, 371, 0, 0, 0), (371, .istore 6, 373, 0, 0, 0), (373, .iinc 7 1, 376, 0, 0, 0), (376, .goto (-36), 379, 340, 0, 0), (379, .iload 6, 381, 0, 0, 0), (381, .ireturn, 382, 0, 0, 0)]
def tb_M_hands : List (Nat × EN) := tb_M_hands_0 ++ tb_M_hands_1 ++ tb_M_hands_2 ++ tb_M_hands_3
def tb_M_power_0 : List (Nat × EN) := [(0, .lconst 1, 1, 0, 0, 0), (1, .lstore_n 3, 2, 0, 0, 0), (2, .iconst 0, 3, 0, 0, 0), (3, .istore 5, 5, 0, 0, 0), (5, .iload 5, 7, 0, 0, 0), (7, .iload_n 2, 8, 0, 0, 0), (8, .if_icmp .ge 13, 11, 21, 0, 0), (11, .lload_n 3, 12, 0, 0, 0), (12, .lload_n 0, 13, 0, 0, 0), (13, .lmul, 14, 0, 0, 0), (14, .lstore_n 3, 15, 0, 0, 0), (15, .iinc 5 1, 18, 0, 0, 0), (18, .goto (-13), 21, 5, 0, 0), (21, .lload_n 3, 22, 0, 0, 0), (22, .lreturn, 23, 0, 0, 0)]
def tb_M_power : List (Nat × EN) := tb_M_power_0
def tb_M_truly_0 : List (Nat × EN) := [(0, .iload_n 1, 1, 0, 0, 0), (1, .iconst 0, 2, 0, 0, 0), (2, .bipush 10, 4, 0, 0, 0), (4, .invokestatic 46, 7, 146, 0, 0), (7, .ifCond .eq 43, 10, 50, 0, 0), (10, .iload_n 2, 11, 0, 0, 0), (11, .iconst 0, 12, 0, 0, 0), (12, .bipush 10, 14, 0, 0, 0), (14, .invokestatic 46, 17, 146, 0, 0), (17, .ifCond .eq 33, 20, 50, 0, 0), (20, .iload_n 3, 21, 0, 0, 0), (21, .iconst 0, 22, 0, 0, 0), (22, .bipush 16, 24, 0, 0, 0), (24, .invokestatic 46, 27, 146, 0, 0), (27, .ifCond .eq 23, 30, 50, 0, 0), (30, .iload 4, 32, 0, 0, 0), (32, .iconst 0, 33, 0, 0, 0), (33, .iload_n 3, 34, 0, 0, 0), (34, .invokestatic 46, 37, 146, 0, 0), (37, .ifCond .eq 13, 40, 50, 0, 0), (40, .iload 5, 42, 0, 0, 0), (42, .iconst 0, 43, 0, 0, 0), (43, .iconst 1, 44, 0, 0, 0), (44, .invokestatic 46, 47, 146, 0, 0), (47, .ifCond .ne 7, 50, 54, 0, 0), (50, .ldc2_w 173, 53, 0, 0, -1000000000000000002), (53, .lreturn, 54, 0, 0, 0), (54, .iload_n 1, 55, 0, 0, 0), (55, .i2l, 56, 0, 0, 0), (56, .iload 4, 58, 0, 0, 0), (58, .invokestatic 181, 61, 197, 0, 0), (61, .ldc2_w 175, 64, 0, 0, 10), (64, .iload_n 1, 65, 0, 0, 0), (65, .i2l, 66, 0, 0, 0), (66, .lsub, 67, 0, 0, 0), (67, .iload_n 3, 68, 0, 0, 0), (68, .iload 4, 70, 0, 0, 0), (70, .isub, 71, 0, 0, 0), (71, .invokestatic 181, 74, 197, 0, 0), (74, .lmul, 75, 0, 0, 0), (75, .lstore 6, 77, 0, 0, 0), (77, .iload_n 2, 78, 0, 0, 0), (78, .i2l, 79, 0, 0, 0), (79, .iload 4, 81, 0, 0, 0), (81, .invokestatic 181, 84, 197, 0, 0), (84, .ldc2_w 175, 87, 0, 0, 10), (87, .iload_n 2, 88, 0, 0, 0), (88, .i2l, 89, 0, 0, 0), (89, .lsub, 90, 0, 0, 0), (90, .iload_n 3, 91, 0, 0, 0), (91, .iload 4, 93, 0, 0, 0), (93, .isub, 94, 0, 0, 0), (94, .invokestatic 181, 97, 197, 0, 0), (97, .lmul, 98, 0, 0, 0), (98, .lstore 8, 100, 0, 0, 0), (100, .lload 6, 102, 0, 0, 0), (102, .lload 8, 104, 0, 0, 0), (104, .ladd, 105, 0, 0, 0), (105, .lconst 0, 106, 0, 0, 0), (106, .lcmp, 107, 0, 0, 0)]
def tb_M_truly_1 : List (Nat × EN) := [(107, .ifCond .ne 9, 110, 116, 0, 0), (110, .iload 5, 112, 0, 0, 0), (112, .i2l, 113, 0, 0, 0), (113, .goto 15, 116, 128, 0, 0), (116, .lload 6, 118, 0, 0, 0), (118, .lload 6, 120, 0, 0, 0), (120, .lload 8, 122, 0, 0, 0), (122, .ladd, 123, 0, 0, 0), (123, .iload 5, 125, 0, 0, 0), (125, .invokestatic 177, 128, 194, 0, 0), (128, .lreturn, 129, 0, 0, 0)]
def tb_M_truly : List (Nat × EN) := tb_M_truly_0 ++ tb_M_truly_1
def tb_M_race_0 : List (Nat × EN) := [(0, .iload_n 1, 1, 0, 0, 0), (1, .iconst 0, 2, 0, 0, 0), (2, .bipush 9, 4, 0, 0, 0), (4, .invokestatic 46, 7, 146, 0, 0), (7, .ifCond .eq 33, 10, 40, 0, 0), (10, .iload_n 2, 11, 0, 0, 0), (11, .iconst 0, 12, 0, 0, 0), (12, .bipush 9, 14, 0, 0, 0), (14, .invokestatic 46, 17, 146, 0, 0), (17, .ifCond .eq 23, 20, 40, 0, 0), (20, .iload_n 3, 21, 0, 0, 0), (21, .iconst 0, 22, 0, 0, 0), (22, .bipush 10, 24, 0, 0, 0), (24, .invokestatic 46, 27, 146, 0, 0), (27, .ifCond .eq 13, 30, 40, 0, 0), (30, .iload 4, 32, 0, 0, 0), (32, .iconst 0, 33, 0, 0, 0), (33, .iconst 1, 34, 0, 0, 0), (34, .invokestatic 46, 37, 146, 0, 0), (37, .ifCond .ne 7, 40, 44, 0, 0), (40, .ldc2_w 173, 43, 0, 0, -1000000000000000002), (43, .lreturn, 44, 0, 0, 0), (44, .iload_n 1, 45, 0, 0, 0), (45, .iload_n 2, 46, 0, 0, 0), (46, .iadd, 47, 0, 0, 0), (47, .ifCond .ne 7, 50, 54, 0, 0), (50, .ldc2_w 185, 53, 0, 0, -1000000000000000003), (53, .lreturn, 54, 0, 0, 0), (54, .iconst 1, 55, 0, 0, 0), (55, .istore 5, 57, 0, 0, 0), (57, .iload 5, 59, 0, 0, 0), (59, .bipush 11, 61, 0, 0, 0), (61, .if_icmp .ge 37, 64, 98, 0, 0), (64, .aload_n 0, 65, 0, 0, 0), (65, .getfield 31, 68, 8, 15, 2), (68, .iload 5, 70, 0, 0, 0), (70, .ldc2_w 175, 73, 0, 0, 10), (73, .iload 5, 75, 0, 0, 0), (75, .iconst 1, 76, 0, 0, 0), (76, .isub, 77, 0, 0, 0), (77, .invokestatic 181, 80, 197, 0, 0), (80, .lastore, 81, 0, 0, 0), (81, .aload_n 0, 82, 0, 0, 0), (82, .getfield 31, 85, 8, 15, 2), (85, .bipush 11, 87, 0, 0, 0), (87, .iload 5, 89, 0, 0, 0), (89, .imul, 90, 0, 0, 0), (90, .lconst 0, 91, 0, 0, 0), (91, .lastore, 92, 0, 0, 0), (92, .iinc 5 1, 95, 0, 0, 0), (95, .goto (-38), 98, 57, 0, 0), (98, .iconst 1, 99, 0, 0, 0), (99, .istore 5, 101, 0, 0, 0), (101, .iload 5, 103, 0, 0, 0), (103, .bipush 10, 105, 0, 0, 0), (105, .iload_n 1, 106, 0, 0, 0), (106, .isub, 107, 0, 0, 0), (107, .if_icmp .gt 80, 110, 187, 0, 0), (110, .iconst 1, 111, 0, 0, 0), (111, .istore 6, 113, 0, 0, 0)]
def tb_M_race_1 : List (Nat × EN) := [(113, .iload 6, 115, 0, 0, 0), (115, .bipush 10, 117, 0, 0, 0), (117, .iload_n 2, 118, 0, 0, 0), (118, .isub, 119, 0, 0, 0), (119, .if_icmp .gt 62, 122, 181, 0, 0), (122, .aload_n 0, 123, 0, 0, 0), (123, .getfield 31, 126, 8, 15, 2), (126, .bipush 11, 128, 0, 0, 0), (128, .iload 5, 130, 0, 0, 0), (130, .imul, 131, 0, 0, 0), (131, .iload 6, 133, 0, 0, 0), (133, .iadd, 134, 0, 0, 0), (134, .iload_n 3, 135, 0, 0, 0), (135, .i2l, 136, 0, 0, 0), (136, .aload_n 0, 137, 0, 0, 0), (137, .getfield 31, 140, 8, 15, 2), (140, .bipush 11, 142, 0, 0, 0), (142, .iload 5, 144, 0, 0, 0), (144, .iconst 1, 145, 0, 0, 0), (145, .isub, 146, 0, 0, 0), (146, .imul, 147, 0, 0, 0), (147, .iload 6, 149, 0, 0, 0), (149, .iadd, 150, 0, 0, 0), (150, .laload, 151, 0, 0, 0), (151, .lmul, 152, 0, 0, 0), (152, .bipush 10, 154, 0, 0, 0), (154, .iload_n 3, 155, 0, 0, 0), (155, .isub, 156, 0, 0, 0), (156, .i2l, 157, 0, 0, 0), (157, .aload_n 0, 158, 0, 0, 0), (158, .getfield 31, 161, 8, 15, 2), (161, .bipush 11, 163, 0, 0, 0), (163, .iload 5, 165, 0, 0, 0), (165, .imul, 166, 0, 0, 0), (166, .iload 6, 168, 0, 0, 0), (168, .iadd, 169, 0, 0, 0), (169, .iconst 1, 170, 0, 0, 0), (170, .isub, 171, 0, 0, 0), (171, .laload, 172, 0, 0, 0), (172, .lmul, 173, 0, 0, 0), (173, .ladd, 174, 0, 0, 0), (174, .lastore, 175, 0, 0, 0), (175, .iinc 6 1, 178, 0, 0, 0), (178, .goto (-65), 181, 113, 0, 0), (181, .iinc 5 1, 184, 0, 0, 0), (184, .goto (-83), 187, 101, 0, 0), (187, .aload_n 0, 188, 0, 0, 0), (188, .getfield 31, 191, 8, 15, 2), (191, .bipush 11, 193, 0, 0, 0), (193, .bipush 10, 195, 0, 0, 0), (195, .iload_n 1, 196, 0, 0, 0), (196, .isub, 197, 0, 0, 0), (197, .imul, 198, 0, 0, 0), (198, .bipush 10, 200, 0, 0, 0), (200, .iadd, 201, 0, 0, 0), (201, .iload_n 2, 202, 0, 0, 0), (202, .isub, 203, 0, 0, 0), (203, .laload, 204, 0, 0, 0), (204, .ldc2_w 175, 207, 0, 0, 10), (207, .bipush 19, 209, 0, 0, 0)]
def tb_M_race_2 : List (Nat × EN) := [(209, .iload_n 1, 210, 0, 0, 0), (210, .isub, 211, 0, 0, 0), (211, .iload_n 2, 212, 0, 0, 0), (212, .isub, 213, 0, 0, 0), (213, .invokestatic 181, 216, 197, 0, 0), (216, .iload 4, 218, 0, 0, 0), (218, .invokestatic 177, 221, 194, 0, 0), (221, .lreturn, 222, 0, 0, 0)]
def tb_M_race : List (Nat × EN) := tb_M_race_0 ++ tb_M_race_1 ++ tb_M_race_2
def tb_M_seen_0 : List (Nat × EN) := [(0, .iload_n 1, 1, 0, 0, 0), (1, .iconst 0, 2, 0, 0, 0), (2, .bipush 60, 4, 0, 0, 0), (4, .invokestatic 46, 7, 146, 0, 0), (7, .ifCond .ne 6, 10, 13, 0, 0), (10, .bipush (-2), 12, 0, 0, 0), (12, .ireturn, 13, 0, 0, 0), (13, .aload_n 0, 14, 0, 0, 0), (14, .getfield 187, 17, 8, 2, 0), (17, .bipush 8, 19, 0, 0, 0), (19, .if_icmp .ne 6, 22, 25, 0, 0), (22, .bipush (-4), 24, 0, 0, 0), (24, .ireturn, 25, 0, 0, 0), (25, .aload_n 0, 26, 0, 0, 0), (26, .getfield 16, 29, 8, 3, 2), (29, .iconst 2, 30, 0, 0, 0), (30, .aload_n 0, 31, 0, 0, 0), (31, .getfield 187, 34, 8, 2, 0), (34, .imul, 35, 0, 0, 0), (35, .iload_n 1, 36, 0, 0, 0), (36, .iastore, 37, 0, 0, 0), (37, .aload_n 0, 38, 0, 0, 0), (38, .getfield 16, 41, 8, 3, 2), (41, .iconst 2, 42, 0, 0, 0), (42, .aload_n 0, 43, 0, 0, 0), (43, .getfield 187, 46, 8, 2, 0), (46, .imul, 47, 0, 0, 0), (47, .iconst 1, 48, 0, 0, 0), (48, .iadd, 49, 0, 0, 0), (49, .iload_n 2, 50, 0, 0, 0), (50, .ifCond .eq 7, 53, 57, 0, 0), (53, .iconst 1, 54, 0, 0, 0), (54, .goto 4, 57, 58, 0, 0), (57, .iconst 0, 58, 0, 0, 0), (58, .iastore, 59, 0, 0, 0), (59, .aload_n 0, 60, 0, 0, 0), (60, .dup, 61, 0, 0, 0), (61, .getfield 187, 64, 8, 2, 0), (64, .iconst 1, 65, 0, 0, 0), (65, .iadd, 66, 0, 0, 0), (66, .putfield 187, 69, 8, 2, 0), (69, .aload_n 0, 70, 0, 0, 0), (70, .getfield 187, 73, 8, 2, 0), (73, .ireturn, 74, 0, 0, 0)]
def tb_M_seen : List (Nat × EN) := tb_M_seen_0
def tb_M_forget_0 : List (Nat × EN) := [(0, .aload_n 0, 1, 0, 0, 0), (1, .getfield 187, 4, 8, 2, 0), (4, .istore_n 1, 5, 0, 0, 0), (5, .aload_n 0, 6, 0, 0, 0), (6, .iconst 0, 7, 0, 0, 0), (7, .putfield 187, 10, 8, 2, 0), (10, .iload_n 1, 11, 0, 0, 0), (11, .ireturn, 12, 0, 0, 0)]
def tb_M_forget : List (Nat × EN) := tb_M_forget_0
def tb_M_sideAt_0 : List (Nat × EN) := [(0, .iload_n 0, 1, 0, 0, 0), (1, .bipush 16, 3, 0, 0, 0), (3, .irem, 4, 0, 0, 0), (4, .iload_n 1, 5, 0, 0, 0), (5, .iload_n 0, 6, 0, 0, 0), (6, .bipush 16, 8, 0, 0, 0), (8, .idiv, 9, 0, 0, 0), (9, .irem, 10, 0, 0, 0), (10, .ishr, 11, 0, 0, 0), (11, .iconst 1, 12, 0, 0, 0), (12, .iand, 13, 0, 0, 0), (13, .ireturn, 14, 0, 0, 0)]
def tb_M_sideAt : List (Nat × EN) := tb_M_sideAt_0
def tb_M_isFit_0 : List (Nat × EN) := [(0, .iload_n 1, 1, 0, 0, 0), (1, .bipush 16, 3, 0, 0, 0), (3, .irem, 4, 0, 0, 0), (4, .iconst 1, 5, 0, 0, 0), (5, .iload_n 1, 6, 0, 0, 0), (6, .bipush 16, 8, 0, 0, 0), (8, .idiv, 9, 0, 0, 0), (9, .ishl, 10, 0, 0, 0), (10, .if_icmp .ge 7, 13, 17, 0, 0), (13, .iconst 1, 14, 0, 0, 0), (14, .goto 4, 17, 18, 0, 0), (17, .iconst 0, 18, 0, 0, 0), (18, .istore_n 2, 19, 0, 0, 0), (19, .iconst 0, 20, 0, 0, 0), (20, .istore_n 3, 21, 0, 0, 0), (21, .iload_n 3, 22, 0, 0, 0), (22, .aload_n 0, 23, 0, 0, 0), (23, .getfield 187, 26, 8, 2, 0), (26, .if_icmp .ge 44, 29, 70, 0, 0), (29, .iload_n 2, 30, 0, 0, 0), (30, .ifCond .eq 40, 33, 70, 0, 0), (33, .iload_n 1, 34, 0, 0, 0), (34, .aload_n 0, 35, 0, 0, 0), (35, .getfield 16, 38, 8, 3, 2), (38, .iconst 2, 39, 0, 0, 0), (39, .iload_n 3, 40, 0, 0, 0), (40, .imul, 41, 0, 0, 0), (41, .iaload, 42, 0, 0, 0), (42, .invokestatic 190, 45, 202, 0, 0), (45, .aload_n 0, 46, 0, 0, 0), (46, .getfield 16, 49, 8, 3, 2), (49, .iconst 2, 50, 0, 0, 0), (50, .iload_n 3, 51, 0, 0, 0), (51, .imul, 52, 0, 0, 0), (52, .iconst 1, 53, 0, 0, 0), (53, .iadd, 54, 0, 0, 0), (54, .iaload, 55, 0, 0, 0), (55, .if_icmp .ne 7, 58, 62, 0, 0), (58, .iconst 1, 59, 0, 0, 0), (59, .goto 4, 62, 63, 0, 0), (62, .iconst 0, 63, 0, 0, 0), (63, .istore_n 2, 64, 0, 0, 0), (64, .iinc 3 1, 67, 0, 0, 0), (67, .goto (-46), 70, 21, 0, 0), (70, .iload_n 2, 71, 0, 0, 0), (71, .ireturn, 72, 0, 0, 0)]
def tb_M_isFit : List (Nat × EN) := tb_M_isFit_0
def tb_M_fits_0 : List (Nat × EN) := [(0, .iconst 0, 1, 0, 0, 0), (1, .istore_n 2, 2, 0, 0, 0), (2, .bipush 16, 4, 0, 0, 0), (4, .istore_n 3, 5, 0, 0, 0), (5, .iload_n 3, 6, 0, 0, 0), (6, .bipush 80, 8, 0, 0, 0), (8, .if_icmp .ge 27, 11, 35, 0, 0), (11, .aload_n 0, 12, 0, 0, 0), (12, .iload_n 3, 13, 0, 0, 0), (13, .invokevirtual 193, 16, 203, 1, 0), (16, .ifCond .eq 13, 19, 29, 0, 0), (19, .iload_n 2, 20, 0, 0, 0), (20, .iload_n 1, 21, 0, 0, 0), (21, .if_icmp .ne 5, 24, 26, 0, 0), (24, .iload_n 3, 25, 0, 0, 0), (25, .ireturn, 26, 0, 0, 0), (26, .iinc 2 1, 29, 0, 0, 0), (29, .iinc 3 1, 32, 0, 0, 0), (32, .goto (-27), 35, 5, 0, 0), (35, .iload_n 1, 36, 0, 0, 0), (36, .iconst (-1), 37, 0, 0, 0), (37, .if_icmp .ne 7, 40, 44, 0, 0), (40, .iload_n 2, 41, 0, 0, 0), (41, .goto 5, 44, 46, 0, 0), (44, .bipush (-6), 46, 0, 0, 0), (46, .ireturn, 47, 0, 0, 0)]
def tb_M_fits : List (Nat × EN) := tb_M_fits_0
def tb_M_ask_0 : List (Nat × EN) := [(0, .iload_n 1, 1, 0, 0, 0), (1, .iconst 0, 2, 0, 0, 0), (2, .iconst 1, 3, 0, 0, 0), (3, .invokestatic 46, 6, 146, 0, 0), (6, .ifCond .ne 6, 9, 12, 0, 0), (9, .bipush (-2), 11, 0, 0, 0), (11, .ireturn, 12, 0, 0, 0), (12, .bipush (-6), 14, 0, 0, 0), (14, .istore_n 2, 15, 0, 0, 0), (15, .ldc 165, 17, 0, 0, 1000000), (17, .istore_n 3, 18, 0, 0, 0), (18, .iconst 0, 19, 0, 0, 0), (19, .istore 4, 21, 0, 0, 0), (21, .iload 4, 23, 0, 0, 0), (23, .bipush 61, 25, 0, 0, 0), (25, .if_icmp .ge 120, 28, 145, 0, 0), (28, .iconst 0, 29, 0, 0, 0), (29, .istore 5, 31, 0, 0, 0), (31, .iconst 0, 32, 0, 0, 0), (32, .istore 6, 34, 0, 0, 0), (34, .bipush 16, 36, 0, 0, 0), (36, .istore 7, 38, 0, 0, 0), (38, .iload 7, 40, 0, 0, 0), (40, .bipush 80, 42, 0, 0, 0), (42, .if_icmp .ge 33, 45, 75, 0, 0), (45, .aload_n 0, 46, 0, 0, 0), (46, .iload 7, 48, 0, 0, 0), (48, .invokevirtual 193, 51, 203, 1, 0), (51, .ifCond .eq 18, 54, 69, 0, 0), (54, .iinc 5 1, 57, 0, 0, 0), (57, .iload 6, 59, 0, 0, 0), (59, .iload 7, 61, 0, 0, 0), (61, .iload 4, 63, 0, 0, 0), (63, .invokestatic 190, 66, 202, 0, 0), (66, .iadd, 67, 0, 0, 0), (67, .istore 6, 69, 0, 0, 0), (69, .iinc 7 1, 72, 0, 0, 0), (72, .goto (-34), 75, 38, 0, 0), (75, .iload 6, 77, 0, 0, 0), (77, .iload 5, 79, 0, 0, 0), (79, .iload 6, 81, 0, 0, 0), (81, .isub, 82, 0, 0, 0), (82, .if_icmp .le 8, 85, 90, 0, 0), (85, .iload 6, 87, 0, 0, 0), (87, .goto 8, 90, 95, 0, 0), (90, .iload 5, 92, 0, 0, 0), (92, .iload 6, 94, 0, 0, 0), (94, .isub, 95, 0, 0, 0), (95, .istore 7, 97, 0, 0, 0), (97, .iload 5, 99, 0, 0, 0), (99, .ifCond .le 13, 102, 112, 0, 0), (102, .iload 7, 104, 0, 0, 0), (104, .iload_n 3, 105, 0, 0, 0), (105, .if_icmp .ge 7, 108, 112, 0, 0), (108, .iconst 1, 109, 0, 0, 0), (109, .goto 4, 112, 113, 0, 0), (112, .iconst 0, 113, 0, 0, 0), (113, .istore 8, 115, 0, 0, 0), (115, .iload 8, 117, 0, 0, 0), (117, .ifCond .eq 8, 120, 125, 0, 0)]
def tb_M_ask_1 : List (Nat × EN) := [(120, .iload 4, 122, 0, 0, 0), (122, .goto 4, 125, 126, 0, 0), (125, .iload_n 2, 126, 0, 0, 0), (126, .istore_n 2, 127, 0, 0, 0), (127, .iload 8, 129, 0, 0, 0), (129, .ifCond .eq 8, 132, 137, 0, 0), (132, .iload 7, 134, 0, 0, 0), (134, .goto 4, 137, 138, 0, 0), (137, .iload_n 3, 138, 0, 0, 0), (138, .istore_n 3, 139, 0, 0, 0), (139, .iinc 4 1, 142, 0, 0, 0), (142, .goto (-121), 145, 21, 0, 0), (145, .iload_n 2, 146, 0, 0, 0), (146, .ifCond .lt 7, 149, 153, 0, 0), (149, .iload_n 1, 150, 0, 0, 0), (150, .ifCond .ne 7, 153, 157, 0, 0), (153, .iload_n 2, 154, 0, 0, 0), (154, .goto 4, 157, 158, 0, 0), (157, .iload_n 3, 158, 0, 0, 0), (158, .ireturn, 159, 0, 0, 0)]
def tb_M_ask : List (Nat × EN) := tb_M_ask_0 ++ tb_M_ask_1
def tb_M_year_0 : List (Nat × EN) := [(0, .iload_n 1, 1, 0, 0, 0), (1, .iconst 0, 2, 0, 0, 0), (2, .sipush 9999, 5, 0, 0, 0), (5, .invokestatic 46, 8, 146, 0, 0), (8, .ifCond .eq 22, 11, 30, 0, 0), (11, .iload_n 2, 12, 0, 0, 0), (12, .iconst 1, 13, 0, 0, 0), (13, .bipush 99, 15, 0, 0, 0), (15, .invokestatic 46, 18, 146, 0, 0), (18, .ifCond .eq 12, 21, 30, 0, 0), (21, .iload_n 3, 22, 0, 0, 0), (22, .iconst 0, 23, 0, 0, 0), (23, .iconst 2, 24, 0, 0, 0), (24, .invokestatic 46, 27, 146, 0, 0), (27, .ifCond .ne 6, 30, 33, 0, 0), (30, .bipush (-2), 32, 0, 0, 0), (32, .ireturn, 33, 0, 0, 0), (33, .aload_n 0, 34, 0, 0, 0), (34, .invokevirtual 66, 37, 169, 1, 0), (37, .iload_n 1, 38, 0, 0, 0), (38, .istore 4, 40, 0, 0, 0), (40, .iconst 0, 41, 0, 0, 0), (41, .istore 5, 43, 0, 0, 0), (43, .iload 5, 45, 0, 0, 0), (45, .iload_n 2, 46, 0, 0, 0), (46, .if_icmp .ge 232, 49, 278, 0, 0), (49, .bipush 75, 51, 0, 0, 0), (51, .iload 4, 53, 0, 0, 0), (53, .imul, 54, 0, 0, 0), (54, .bipush 74, 56, 0, 0, 0), (56, .iadd, 57, 0, 0, 0), (57, .ldc 196, 59, 0, 0, 65537), (59, .irem, 60, 0, 0, 0), (60, .istore 4, 62, 0, 0, 0), (62, .iload 4, 64, 0, 0, 0), (64, .bipush 8, 66, 0, 0, 0), (66, .irem, 67, 0, 0, 0), (67, .istore 6, 69, 0, 0, 0), (69, .iload 4, 71, 0, 0, 0), (71, .bipush 64, 73, 0, 0, 0), (73, .idiv, 74, 0, 0, 0), (74, .istore 7, 76, 0, 0, 0), (76, .iload 4, 78, 0, 0, 0), (78, .bipush 8, 80, 0, 0, 0), (80, .idiv, 81, 0, 0, 0), (81, .bipush 8, 83, 0, 0, 0), (83, .irem, 84, 0, 0, 0), (84, .tableswitch 157 0 6 #[44, 57, 70, 90, 110, 125, 138], 128, 0, 0, 0), (128, .aload_n 0, 129, 0, 0, 0), (129, .aload_n 0, 130, 0, 0, 0), (130, .iload 6, 132, 0, 0, 0), (132, .invokevirtual 120, 135, 171, 1, 0), (135, .putfield 153, 138, 8, 9, 0), (138, .goto 134, 141, 272, 0, 0), (141, .aload_n 0, 142, 0, 0, 0), (142, .aload_n 0, 143, 0, 0, 0), (143, .iload 6, 145, 0, 0, 0), (145, .invokevirtual 123, 148, 172, 1, 0), (148, .putfield 153, 151, 8, 9, 0), (151, .goto 121, 154, 272, 0, 0)]
def tb_M_year_1 : List (Nat × EN) := [(154, .aload_n 0, 155, 0, 0, 0), (155, .aload_n 0, 156, 0, 0, 0), (156, .iload 6, 158, 0, 0, 0), (158, .iconst (-1), 159, 0, 0, 0), (159, .iload 7, 161, 0, 0, 0), (161, .bipush 9, 163, 0, 0, 0), (163, .irem, 164, 0, 0, 0), (164, .isub, 165, 0, 0, 0), (165, .invokevirtual 126, 168, 173, 1, 0), (168, .putfield 153, 171, 8, 9, 0), (171, .goto 101, 174, 272, 0, 0), (174, .aload_n 0, 175, 0, 0, 0), (175, .aload_n 0, 176, 0, 0, 0), (176, .iload 6, 178, 0, 0, 0), (178, .iconst 1, 179, 0, 0, 0), (179, .iload 7, 181, 0, 0, 0), (181, .bipush 9, 183, 0, 0, 0), (183, .irem, 184, 0, 0, 0), (184, .iadd, 185, 0, 0, 0), (185, .invokevirtual 126, 188, 173, 1, 0), (188, .putfield 153, 191, 8, 9, 0), (191, .goto 81, 194, 272, 0, 0), (194, .aload_n 0, 195, 0, 0, 0), (195, .aload_n 0, 196, 0, 0, 0), (196, .iload 7, 198, 0, 0, 0), (198, .iconst 5, 199, 0, 0, 0), (199, .irem, 200, 0, 0, 0), (200, .invokevirtual 132, 203, 175, 1, 0), (203, .putfield 153, 206, 8, 9, 0), (206, .goto 66, 209, 272, 0, 0), (209, .aload_n 0, 210, 0, 0, 0), (210, .aload_n 0, 211, 0, 0, 0), (211, .iload 6, 213, 0, 0, 0), (213, .invokevirtual 135, 216, 176, 1, 0), (216, .putfield 153, 219, 8, 9, 0), (219, .goto 53, 222, 272, 0, 0), (222, .aload_n 0, 223, 0, 0, 0), (223, .aload_n 0, 224, 0, 0, 0), (224, .iload 7, 226, 0, 0, 0), (226, .bipush 19, 228, 0, 0, 0), (228, .irem, 229, 0, 0, 0), (229, .bipush 9, 231, 0, 0, 0), (231, .isub, 232, 0, 0, 0), (232, .invokevirtual 138, 235, 177, 1, 0), (235, .putfield 153, 238, 8, 9, 0), (238, .goto 34, 241, 272, 0, 0), (241, .aload_n 0, 242, 0, 0, 0), (242, .aload_n 0, 243, 0, 0, 0), (243, .getfield 13, 246, 8, 1, 2), (246, .bipush 16, 248, 0, 0, 0), (248, .iaload, 249, 0, 0, 0), (249, .ifCond .ge 16, 252, 265, 0, 0), (252, .aload_n 0, 253, 0, 0, 0), (253, .iload 6, 255, 0, 0, 0), (255, .iload 7, 257, 0, 0, 0), (257, .iconst 5, 258, 0, 0, 0), (258, .irem, 259, 0, 0, 0), (259, .invokevirtual 141, 262, 178, 1, 0), (262, .goto 7, 265, 269, 0, 0), (265, .aload_n 0, 266, 0, 0, 0)]
def tb_M_year_2 : List (Nat × EN) := [(266, .invokevirtual 129, 269, 179, 1, 0), (269, .putfield 153, 272, 8, 9, 0), (272, .iinc 5 1, 275, 0, 0, 0), (275, .goto (-232), 278, 43, 0, 0), (278, .iload_n 3, 279, 0, 0, 0), (279, .ifCond .ne 21, 282, 300, 0, 0), (282, .aload_n 0, 283, 0, 0, 0), (283, .getfield 13, 286, 8, 1, 2), (286, .bipush 18, 288, 0, 0, 0), (288, .iaload, 289, 0, 0, 0), (289, .aload_n 0, 290, 0, 0, 0), (290, .getfield 13, 293, 8, 1, 2), (293, .bipush 19, 295, 0, 0, 0), (295, .iaload, 296, 0, 0, 0), (296, .iadd, 297, 0, 0, 0), (297, .goto 25, 300, 322, 0, 0), (300, .iload_n 3, 301, 0, 0, 0), (301, .iconst 1, 302, 0, 0, 0), (302, .if_icmp .ne 13, 305, 315, 0, 0), (305, .aload_n 0, 306, 0, 0, 0), (306, .getfield 13, 309, 8, 1, 2), (309, .bipush 20, 311, 0, 0, 0), (311, .iaload, 312, 0, 0, 0), (312, .goto 10, 315, 322, 0, 0), (315, .aload_n 0, 316, 0, 0, 0), (316, .getfield 13, 319, 8, 1, 2), (319, .bipush 16, 321, 0, 0, 0), (321, .iaload, 322, 0, 0, 0), (322, .ireturn, 323, 0, 0, 0)]
def tb_M_year : List (Nat × EN) := tb_M_year_0 ++ tb_M_year_1 ++ tb_M_year_2
def tb_M_image_0 : List (Nat × EN) := [(0, .iload_n 1, 1, 0, 0, 0), (1, .iconst 0, 2, 0, 0, 0), (2, .iconst 1, 3, 0, 0, 0), (3, .invokestatic 46, 6, 146, 0, 0), (6, .ifCond .ne 6, 9, 12, 0, 0), (9, .bipush (-2), 11, 0, 0, 0), (11, .ireturn, 12, 0, 0, 0), (12, .bipush 40, 14, 0, 0, 0), (14, .iload_n 1, 15, 0, 0, 0), (15, .imul, 16, 0, 0, 0), (16, .istore_n 2, 17, 0, 0, 0), (17, .iconst 0, 18, 0, 0, 0), (18, .istore_n 3, 19, 0, 0, 0), (19, .iload_n 3, 20, 0, 0, 0), (20, .bipush 21, 22, 0, 0, 0), (22, .if_icmp .ge 23, 25, 45, 0, 0), (25, .aload_n 0, 26, 0, 0, 0), (26, .getfield 35, 29, 8, 16, 2), (29, .iload_n 2, 30, 0, 0, 0), (30, .iload_n 3, 31, 0, 0, 0), (31, .iadd, 32, 0, 0, 0), (32, .aload_n 0, 33, 0, 0, 0), (33, .getfield 7, 36, 8, 0, 2), (36, .iload_n 3, 37, 0, 0, 0), (37, .iaload, 38, 0, 0, 0), (38, .iastore, 39, 0, 0, 0), (39, .iinc 3 1, 42, 0, 0, 0), (42, .goto (-23), 45, 19, 0, 0), (45, .iconst 0, 46, 0, 0, 0), (46, .istore_n 3, 47, 0, 0, 0), (47, .iload_n 3, 48, 0, 0, 0), (48, .bipush 16, 50, 0, 0, 0), (50, .if_icmp .ge 26, 53, 76, 0, 0), (53, .aload_n 0, 54, 0, 0, 0), (54, .getfield 35, 57, 8, 16, 2), (57, .iload_n 2, 58, 0, 0, 0), (58, .bipush 21, 60, 0, 0, 0), (60, .iadd, 61, 0, 0, 0), (61, .iload_n 3, 62, 0, 0, 0), (62, .iadd, 63, 0, 0, 0), (63, .aload_n 0, 64, 0, 0, 0), (64, .getfield 16, 67, 8, 3, 2), (67, .iload_n 3, 68, 0, 0, 0), (68, .iaload, 69, 0, 0, 0), (69, .iastore, 70, 0, 0, 0), (70, .iinc 3 1, 73, 0, 0, 0), (73, .goto (-26), 76, 47, 0, 0), (76, .aload_n 0, 77, 0, 0, 0), (77, .getfield 35, 80, 8, 16, 2), (80, .iload_n 2, 81, 0, 0, 0), (81, .bipush 38, 83, 0, 0, 0), (83, .iadd, 84, 0, 0, 0), (84, .aload_n 0, 85, 0, 0, 0), (85, .getfield 187, 88, 8, 2, 0), (88, .iastore, 89, 0, 0, 0), (89, .aload_n 0, 90, 0, 0, 0), (90, .getfield 38, 93, 8, 17, 2), (93, .iload_n 1, 94, 0, 0, 0), (94, .iconst 1, 95, 0, 0, 0), (95, .bastore, 96, 0, 0, 0)]
def tb_M_image_1 : List (Nat × EN) := [(96, .iconst 1, 97, 0, 0, 0), (97, .ireturn, 98, 0, 0, 0)]
def tb_M_image : List (Nat × EN) := tb_M_image_0 ++ tb_M_image_1
def tb_M_restore_0 : List (Nat × EN) := [(0, .iload_n 1, 1, 0, 0, 0), (1, .iconst 0, 2, 0, 0, 0), (2, .iconst 1, 3, 0, 0, 0), (3, .invokestatic 46, 6, 146, 0, 0), (6, .ifCond .ne 6, 9, 12, 0, 0), (9, .bipush (-2), 11, 0, 0, 0), (11, .ireturn, 12, 0, 0, 0), (12, .aload_n 0, 13, 0, 0, 0), (13, .getfield 38, 16, 8, 17, 2), (16, .iload_n 1, 17, 0, 0, 0), (17, .baload, 18, 0, 0, 0), (18, .ifCond .ne 6, 21, 24, 0, 0), (21, .bipush (-3), 23, 0, 0, 0), (23, .ireturn, 24, 0, 0, 0), (24, .bipush 40, 26, 0, 0, 0), (26, .iload_n 1, 27, 0, 0, 0), (27, .imul, 28, 0, 0, 0), (28, .istore_n 2, 29, 0, 0, 0), (29, .iconst 0, 30, 0, 0, 0), (30, .istore_n 3, 31, 0, 0, 0), (31, .iload_n 3, 32, 0, 0, 0), (32, .bipush 21, 34, 0, 0, 0), (34, .if_icmp .ge 23, 37, 57, 0, 0), (37, .aload_n 0, 38, 0, 0, 0), (38, .getfield 7, 41, 8, 0, 2), (41, .iload_n 3, 42, 0, 0, 0), (42, .aload_n 0, 43, 0, 0, 0), (43, .getfield 35, 46, 8, 16, 2), (46, .iload_n 2, 47, 0, 0, 0), (47, .iload_n 3, 48, 0, 0, 0), (48, .iadd, 49, 0, 0, 0), (49, .iaload, 50, 0, 0, 0), (50, .iastore, 51, 0, 0, 0), (51, .iinc 3 1, 54, 0, 0, 0), (54, .goto (-23), 57, 31, 0, 0), (57, .iconst 0, 58, 0, 0, 0), (58, .istore_n 3, 59, 0, 0, 0), (59, .iload_n 3, 60, 0, 0, 0), (60, .bipush 16, 62, 0, 0, 0), (62, .if_icmp .ge 26, 65, 88, 0, 0), (65, .aload_n 0, 66, 0, 0, 0), (66, .getfield 16, 69, 8, 3, 2), (69, .iload_n 3, 70, 0, 0, 0), (70, .aload_n 0, 71, 0, 0, 0), (71, .getfield 35, 74, 8, 16, 2), (74, .iload_n 2, 75, 0, 0, 0), (75, .bipush 21, 77, 0, 0, 0), (77, .iadd, 78, 0, 0, 0), (78, .iload_n 3, 79, 0, 0, 0), (79, .iadd, 80, 0, 0, 0), (80, .iaload, 81, 0, 0, 0), (81, .iastore, 82, 0, 0, 0), (82, .iinc 3 1, 85, 0, 0, 0), (85, .goto (-26), 88, 59, 0, 0), (88, .aload_n 0, 89, 0, 0, 0), (89, .aload_n 0, 90, 0, 0, 0), (90, .getfield 35, 93, 8, 16, 2), (93, .iload_n 2, 94, 0, 0, 0), (94, .bipush 38, 96, 0, 0, 0), (96, .iadd, 97, 0, 0, 0)]
def tb_M_restore_1 : List (Nat × EN) := [(97, .iaload, 98, 0, 0, 0), (98, .putfield 187, 101, 8, 2, 0), (101, .iconst 1, 102, 0, 0, 0), (102, .ireturn, 103, 0, 0, 0)]
def tb_M_restore : List (Nat × EN) := tb_M_restore_0 ++ tb_M_restore_1
def tb_M_told_0 : List (Nat × EN) := [(0, .aload_n 0, 1, 0, 0, 0), (1, .invokevirtual 66, 4, 169, 1, 0), (4, .iload_n 1, 5, 0, 0, 0), (5, .bipush 100, 7, 0, 0, 0), (7, .if_icmp .lt 37, 10, 44, 0, 0), (10, .iload_n 1, 11, 0, 0, 0), (11, .bipush 10, 13, 0, 0, 0), (13, .idiv, 14, 0, 0, 0), (14, .bipush 10, 16, 0, 0, 0), (16, .isub, 17, 0, 0, 0), (17, .istore_n 2, 18, 0, 0, 0), (18, .iload_n 2, 19, 0, 0, 0), (19, .iload_n 1, 20, 0, 0, 0), (20, .bipush 10, 22, 0, 0, 0), (22, .irem, 23, 0, 0, 0), (23, .invokestatic 73, 26, 154, 0, 0), (26, .ifCond .eq 15, 29, 41, 0, 0), (29, .aload_n 0, 30, 0, 0, 0), (30, .iload_n 2, 31, 0, 0, 0), (31, .iload_n 1, 32, 0, 0, 0), (32, .bipush 10, 34, 0, 0, 0), (34, .irem, 35, 0, 0, 0), (35, .invokevirtual 88, 38, 165, 1, 0), (38, .goto 5, 41, 43, 0, 0), (41, .bipush (-2), 43, 0, 0, 0), (43, .ireturn, 44, 0, 0, 0), (44, .iload_n 1, 45, 0, 0, 0), (45, .bipush 20, 47, 0, 0, 0), (47, .if_icmp .lt 28, 50, 75, 0, 0), (50, .iload_n 1, 51, 0, 0, 0), (51, .bipush 20, 53, 0, 0, 0), (53, .isub, 54, 0, 0, 0), (54, .invokestatic 62, 57, 148, 0, 0), (57, .ifCond .eq 15, 60, 72, 0, 0), (60, .aload_n 0, 61, 0, 0, 0), (61, .getfield 7, 64, 8, 0, 2), (64, .iload_n 1, 65, 0, 0, 0), (65, .bipush 20, 67, 0, 0, 0), (67, .isub, 68, 0, 0, 0), (68, .iaload, 69, 0, 0, 0), (69, .goto 5, 72, 74, 0, 0), (72, .bipush (-2), 74, 0, 0, 0), (74, .ireturn, 75, 0, 0, 0), (75, .iload_n 1, 76, 0, 0, 0), (76, .bipush 10, 78, 0, 0, 0), (78, .if_icmp .lt 29, 81, 107, 0, 0), (81, .iload_n 1, 82, 0, 0, 0), (82, .bipush 10, 84, 0, 0, 0), (84, .bipush 11, 86, 0, 0, 0), (86, .invokestatic 46, 89, 146, 0, 0), (89, .ifCond .eq 15, 92, 104, 0, 0), (92, .aload_n 0, 93, 0, 0, 0), (93, .getfield 7, 96, 8, 0, 2), (96, .bipush 8, 98, 0, 0, 0), (98, .iload_n 1, 99, 0, 0, 0), (99, .iadd, 100, 0, 0, 0), (100, .iaload, 101, 0, 0, 0), (101, .goto 5, 104, 106, 0, 0), (104, .bipush (-2), 106, 0, 0, 0), (106, .ireturn, 107, 0, 0, 0)]
def tb_M_told_1 : List (Nat × EN) := [(107, .iconst 0, 108, 0, 0, 0), (108, .istore_n 2, 109, 0, 0, 0), (109, .iconst 0, 110, 0, 0, 0), (110, .istore_n 3, 111, 0, 0, 0), (111, .iload_n 3, 112, 0, 0, 0), (112, .bipush 8, 114, 0, 0, 0), (114, .if_icmp .ge 23, 117, 137, 0, 0), (117, .iload_n 2, 118, 0, 0, 0), (118, .aload_n 0, 119, 0, 0, 0), (119, .getfield 7, 122, 8, 0, 2), (122, .bipush 8, 124, 0, 0, 0), (124, .iload_n 3, 125, 0, 0, 0), (125, .iadd, 126, 0, 0, 0), (126, .iaload, 127, 0, 0, 0), (127, .iload_n 3, 128, 0, 0, 0), (128, .ishl, 129, 0, 0, 0), (129, .ior, 130, 0, 0, 0), (130, .istore_n 2, 131, 0, 0, 0), (131, .iinc 3 1, 134, 0, 0, 0), (134, .goto (-23), 137, 111, 0, 0), (137, .iload_n 1, 138, 0, 0, 0), (138, .tableswitch 59 0 4 #[34, 39, 41, 41, 51], 172, 0, 0, 0), (172, .aload_n 0, 173, 0, 0, 0), (173, .getfield 77, 176, 8, 4, 0), (176, .ireturn, 177, 0, 0, 0), (177, .iload_n 2, 178, 0, 0, 0), (178, .ireturn, 179, 0, 0, 0), (179, .aload_n 0, 180, 0, 0, 0), (180, .getfield 7, 183, 8, 0, 2), (183, .bipush 14, 185, 0, 0, 0), (185, .iload_n 1, 186, 0, 0, 0), (186, .iadd, 187, 0, 0, 0), (187, .iaload, 188, 0, 0, 0), (188, .ireturn, 189, 0, 0, 0), (189, .aload_n 0, 190, 0, 0, 0), (190, .getfield 7, 193, 8, 0, 2), (193, .bipush 20, 195, 0, 0, 0), (195, .iaload, 196, 0, 0, 0), (196, .ireturn, 197, 0, 0, 0), (197, .iload_n 1, 198, 0, 0, 0), (198, .iconst 5, 199, 0, 0, 0), (199, .if_icmp .ne 10, 202, 209, 0, 0), (202, .aload_n 0, 203, 0, 0, 0), (203, .getfield 187, 206, 8, 2, 0), (206, .goto 5, 209, 211, 0, 0), (209, .bipush (-2), 211, 0, 0, 0), (211, .ireturn, 212, 0, 0, 0)]
def tb_M_told : List (Nat × EN) := tb_M_told_0 ++ tb_M_told_1
def tb_Integer_bitCount_0 : List (Nat × EN) := [(0, .iload_n 0, 1, 0, 0, 0), (1, .iload_n 0, 2, 0, 0, 0), (2, .iconst 1, 3, 0, 0, 0), (3, .iushr, 4, 0, 0, 0), (4, .ldc_w 265, 7, 0, 0, 1431655765), (7, .iand, 8, 0, 0, 0), (8, .isub, 9, 0, 0, 0), (9, .istore_n 0, 10, 0, 0, 0), (10, .iload_n 0, 11, 0, 0, 0), (11, .ldc_w 266, 14, 0, 0, 858993459), (14, .iand, 15, 0, 0, 0), (15, .iload_n 0, 16, 0, 0, 0), (16, .iconst 2, 17, 0, 0, 0), (17, .iushr, 18, 0, 0, 0), (18, .ldc_w 266, 21, 0, 0, 858993459), (21, .iand, 22, 0, 0, 0), (22, .iadd, 23, 0, 0, 0), (23, .istore_n 0, 24, 0, 0, 0), (24, .iload_n 0, 25, 0, 0, 0), (25, .iload_n 0, 26, 0, 0, 0), (26, .iconst 4, 27, 0, 0, 0), (27, .iushr, 28, 0, 0, 0), (28, .iadd, 29, 0, 0, 0), (29, .ldc_w 267, 32, 0, 0, 252645135), (32, .iand, 33, 0, 0, 0), (33, .istore_n 0, 34, 0, 0, 0), (34, .iload_n 0, 35, 0, 0, 0), (35, .iload_n 0, 36, 0, 0, 0), (36, .bipush 8, 38, 0, 0, 0), (38, .iushr, 39, 0, 0, 0), (39, .iadd, 40, 0, 0, 0), (40, .istore_n 0, 41, 0, 0, 0), (41, .iload_n 0, 42, 0, 0, 0), (42, .iload_n 0, 43, 0, 0, 0), (43, .bipush 16, 45, 0, 0, 0), (45, .iushr, 46, 0, 0, 0), (46, .iadd, 47, 0, 0, 0), (47, .istore_n 0, 48, 0, 0, 0), (48, .iload_n 0, 49, 0, 0, 0), (49, .bipush 63, 51, 0, 0, 0), (51, .iand, 52, 0, 0, 0), (52, .ireturn, 53, 0, 0, 0)]
def tb_Integer_bitCount : List (Nat × EN) := tb_Integer_bitCount_0
def tb_Math_floorMod_0 : List (Nat × EN) := [(0, .iload_n 0, 1, 0, 0, 0), (1, .iload_n 1, 2, 0, 0, 0), (2, .irem, 3, 0, 0, 0), (3, .istore_n 2, 4, 0, 0, 0), (4, .iload_n 0, 5, 0, 0, 0), (5, .iload_n 1, 6, 0, 0, 0), (6, .ixor, 7, 0, 0, 0), (7, .ifCond .ge 11, 10, 18, 0, 0), (10, .iload_n 2, 11, 0, 0, 0), (11, .ifCond .eq 7, 14, 18, 0, 0), (14, .iload_n 2, 15, 0, 0, 0), (15, .iload_n 1, 16, 0, 0, 0), (16, .iadd, 17, 0, 0, 0), (17, .ireturn, 18, 0, 0, 0), (18, .iload_n 2, 19, 0, 0, 0), (19, .ireturn, 20, 0, 0, 0)]
def tb_Math_floorMod : List (Nat × EN) := tb_Math_floorMod_0
def tb_Math_abs_0 : List (Nat × EN) := [(0, .iload_n 0, 1, 0, 0, 0), (1, .ifCond .ge 8, 4, 9, 0, 0), (4, .iload_n 0, 5, 0, 0, 0), (5, .ineg, 6, 0, 0, 0), (6, .goto 4, 9, 10, 0, 0), (9, .iload_n 0, 10, 0, 0, 0), (10, .ireturn, 11, 0, 0, 0)]
def tb_Math_abs : List (Nat × EN) := tb_Math_abs_0
def tb_Math_max_0 : List (Nat × EN) := [(0, .iload_n 0, 1, 0, 0, 0), (1, .iload_n 1, 2, 0, 0, 0), (2, .if_icmp .lt 7, 5, 9, 0, 0), (5, .iload_n 0, 6, 0, 0, 0), (6, .goto 4, 9, 10, 0, 0), (9, .iload_n 1, 10, 0, 0, 0), (10, .ireturn, 11, 0, 0, 0)]
def tb_Math_max : List (Nat × EN) := tb_Math_max_0
def tb_Math_min_0 : List (Nat × EN) := [(0, .iload_n 0, 1, 0, 0, 0), (1, .iload_n 1, 2, 0, 0, 0), (2, .if_icmp .gt 7, 5, 9, 0, 0), (5, .iload_n 0, 6, 0, 0, 0), (6, .goto 4, 9, 10, 0, 0), (9, .iload_n 1, 10, 0, 0, 0), (10, .ireturn, 11, 0, 0, 0)]
def tb_Math_min : List (Nat × EN) := tb_Math_min_0
def tb_Law_law_0 : List (Nat × EN) := [(0, .new 7, 3, 7, 0, 0), (3, .dup, 4, 0, 0, 0), (4, .invokespecial 9, 7, 109, 2, 0), (7, .astore_n 1, 8, 0, 0, 0), (8, .new 10, 11, 8, 0, 0), (11, .dup, 12, 0, 0, 0), (12, .invokespecial 12, 15, 145, 2, 0), (15, .astore_n 2, 16, 0, 0, 0), (16, .iconst 0, 17, 0, 0, 0), (17, .istore_n 3, 18, 0, 0, 0), (18, .iload_n 3, 19, 0, 0, 0), (19, .aload_n 0, 20, 0, 0, 0), (20, .arraylength, 21, 0, 0, 0), (21, .bipush 7, 23, 0, 0, 0), (23, .isub, 24, 0, 0, 0), (24, .if_icmp .gt 976, 27, 1000, 0, 0), (27, .aload_n 0, 28, 0, 0, 0), (28, .iload_n 3, 29, 0, 0, 0), (29, .iaload, 30, 0, 0, 0), (30, .bipush 31, 32, 0, 0, 0), (32, .iand, 33, 0, 0, 0), (33, .tableswitch 961 0 26 #[123, 156, 205, 238, 271, 294, 307, 320, 343, 356, 389, 412, 435, 448, 491, 514, 590, 623, 687, 741, 790, 803, 826, 849, 892, 915, 938], 156, 0, 0, 0), (156, .aload_n 1, 157, 0, 0, 0), (157, .aload_n 0, 158, 0, 0, 0), (158, .iload_n 3, 159, 0, 0, 0), (159, .iconst 1, 160, 0, 0, 0), (160, .iadd, 161, 0, 0, 0), (161, .iaload, 162, 0, 0, 0), (162, .aload_n 0, 163, 0, 0, 0), (163, .iload_n 3, 164, 0, 0, 0), (164, .iconst 2, 165, 0, 0, 0), (165, .iadd, 166, 0, 0, 0), (166, .iaload, 167, 0, 0, 0), (167, .invokevirtual 13, 170, 110, 1, 0), (170, .aload_n 2, 171, 0, 0, 0), (171, .aload_n 0, 172, 0, 0, 0), (172, .iload_n 3, 173, 0, 0, 0), (173, .iconst 1, 174, 0, 0, 0), (174, .iadd, 175, 0, 0, 0), (175, .iaload, 176, 0, 0, 0), (176, .aload_n 0, 177, 0, 0, 0), (177, .iload_n 3, 178, 0, 0, 0), (178, .iconst 2, 179, 0, 0, 0), (179, .iadd, 180, 0, 0, 0), (180, .iaload, 181, 0, 0, 0), (181, .invokevirtual 17, 184, 156, 1, 0), (184, .if_icmp .eq 810, 187, 994, 0, 0), (187, .iconst 0, 188, 0, 0, 0), (188, .ireturn, 189, 0, 0, 0), (189, .aload_n 1, 190, 0, 0, 0), (190, .aload_n 0, 191, 0, 0, 0), (191, .iload_n 3, 192, 0, 0, 0), (192, .iconst 1, 193, 0, 0, 0), (193, .iadd, 194, 0, 0, 0), (194, .iaload, 195, 0, 0, 0), (195, .aload_n 0, 196, 0, 0, 0), (196, .iload_n 3, 197, 0, 0, 0), (197, .iconst 2, 198, 0, 0, 0), (198, .iadd, 199, 0, 0, 0), (199, .iaload, 200, 0, 0, 0)]
def tb_Law_law_1 : List (Nat × EN) := [(200, .ifCond .eq 7, 203, 207, 0, 0), (203, .iconst 1, 204, 0, 0, 0), (204, .goto 4, 207, 208, 0, 0), (207, .iconst 0, 208, 0, 0, 0), (208, .invokevirtual 18, 211, 111, 1, 0), (211, .aload_n 2, 212, 0, 0, 0), (212, .aload_n 0, 213, 0, 0, 0), (213, .iload_n 3, 214, 0, 0, 0), (214, .iconst 1, 215, 0, 0, 0), (215, .iadd, 216, 0, 0, 0), (216, .iaload, 217, 0, 0, 0), (217, .aload_n 0, 218, 0, 0, 0), (218, .iload_n 3, 219, 0, 0, 0), (219, .iconst 2, 220, 0, 0, 0), (220, .iadd, 221, 0, 0, 0), (221, .iaload, 222, 0, 0, 0), (222, .ifCond .eq 7, 225, 229, 0, 0), (225, .iconst 1, 226, 0, 0, 0), (226, .goto 4, 229, 230, 0, 0), (229, .iconst 0, 230, 0, 0, 0), (230, .invokevirtual 22, 233, 157, 1, 0), (233, .if_icmp .eq 761, 236, 994, 0, 0), (236, .iconst 0, 237, 0, 0, 0), (237, .ireturn, 238, 0, 0, 0), (238, .aload_n 1, 239, 0, 0, 0), (239, .aload_n 0, 240, 0, 0, 0), (240, .iload_n 3, 241, 0, 0, 0), (241, .iconst 1, 242, 0, 0, 0), (242, .iadd, 243, 0, 0, 0), (243, .iaload, 244, 0, 0, 0), (244, .aload_n 0, 245, 0, 0, 0), (245, .iload_n 3, 246, 0, 0, 0), (246, .iconst 2, 247, 0, 0, 0), (247, .iadd, 248, 0, 0, 0), (248, .iaload, 249, 0, 0, 0), (249, .invokevirtual 23, 252, 112, 1, 0), (252, .aload_n 2, 253, 0, 0, 0), (253, .aload_n 0, 254, 0, 0, 0), (254, .iload_n 3, 255, 0, 0, 0), (255, .iconst 1, 256, 0, 0, 0), (256, .iadd, 257, 0, 0, 0), (257, .iaload, 258, 0, 0, 0), (258, .aload_n 0, 259, 0, 0, 0), (259, .iload_n 3, 260, 0, 0, 0), (260, .iconst 2, 261, 0, 0, 0), (261, .iadd, 262, 0, 0, 0), (262, .iaload, 263, 0, 0, 0), (263, .invokevirtual 26, 266, 158, 1, 0), (266, .if_icmp .eq 728, 269, 994, 0, 0), (269, .iconst 0, 270, 0, 0, 0), (270, .ireturn, 271, 0, 0, 0), (271, .aload_n 1, 272, 0, 0, 0), (272, .aload_n 0, 273, 0, 0, 0), (273, .iload_n 3, 274, 0, 0, 0), (274, .iconst 1, 275, 0, 0, 0), (275, .iadd, 276, 0, 0, 0), (276, .iaload, 277, 0, 0, 0), (277, .aload_n 0, 278, 0, 0, 0), (278, .iload_n 3, 279, 0, 0, 0), (279, .iconst 2, 280, 0, 0, 0)]
def tb_Law_law_2 : List (Nat × EN) := [(280, .iadd, 281, 0, 0, 0), (281, .iaload, 282, 0, 0, 0), (282, .invokevirtual 27, 285, 113, 1, 0), (285, .aload_n 2, 286, 0, 0, 0), (286, .aload_n 0, 287, 0, 0, 0), (287, .iload_n 3, 288, 0, 0, 0), (288, .iconst 1, 289, 0, 0, 0), (289, .iadd, 290, 0, 0, 0), (290, .iaload, 291, 0, 0, 0), (291, .aload_n 0, 292, 0, 0, 0), (292, .iload_n 3, 293, 0, 0, 0), (293, .iconst 2, 294, 0, 0, 0), (294, .iadd, 295, 0, 0, 0), (295, .iaload, 296, 0, 0, 0), (296, .invokevirtual 30, 299, 159, 1, 0), (299, .if_icmp .eq 695, 302, 994, 0, 0), (302, .iconst 0, 303, 0, 0, 0), (303, .ireturn, 304, 0, 0, 0), (304, .aload_n 1, 305, 0, 0, 0), (305, .aload_n 0, 306, 0, 0, 0), (306, .iload_n 3, 307, 0, 0, 0), (307, .iconst 1, 308, 0, 0, 0), (308, .iadd, 309, 0, 0, 0), (309, .iaload, 310, 0, 0, 0), (310, .invokevirtual 31, 313, 114, 1, 0), (313, .aload_n 2, 314, 0, 0, 0), (314, .aload_n 0, 315, 0, 0, 0), (315, .iload_n 3, 316, 0, 0, 0), (316, .iconst 1, 317, 0, 0, 0), (317, .iadd, 318, 0, 0, 0), (318, .iaload, 319, 0, 0, 0), (319, .invokevirtual 35, 322, 160, 1, 0), (322, .if_icmp .eq 672, 325, 994, 0, 0), (325, .iconst 0, 326, 0, 0, 0), (326, .ireturn, 327, 0, 0, 0), (327, .aload_n 1, 328, 0, 0, 0), (328, .invokevirtual 36, 331, 115, 1, 0), (331, .aload_n 2, 332, 0, 0, 0), (332, .invokevirtual 40, 335, 161, 1, 0), (335, .if_icmp .eq 659, 338, 994, 0, 0), (338, .iconst 0, 339, 0, 0, 0), (339, .ireturn, 340, 0, 0, 0), (340, .aload_n 1, 341, 0, 0, 0), (341, .invokevirtual 41, 344, 116, 1, 0), (344, .aload_n 2, 345, 0, 0, 0), (345, .invokevirtual 44, 348, 164, 1, 0), (348, .if_icmp .eq 646, 351, 994, 0, 0), (351, .iconst 0, 352, 0, 0, 0), (352, .ireturn, 353, 0, 0, 0), (353, .aload_n 1, 354, 0, 0, 0), (354, .aload_n 0, 355, 0, 0, 0), (355, .iload_n 3, 356, 0, 0, 0), (356, .iconst 1, 357, 0, 0, 0), (357, .iadd, 358, 0, 0, 0), (358, .iaload, 359, 0, 0, 0), (359, .invokevirtual 45, 362, 117, 1, 0), (362, .aload_n 2, 363, 0, 0, 0), (363, .aload_n 0, 364, 0, 0, 0), (364, .iload_n 3, 365, 0, 0, 0), (365, .iconst 1, 366, 0, 0, 0)]
def tb_Law_law_3 : List (Nat × EN) := [(366, .iadd, 367, 0, 0, 0), (367, .iaload, 368, 0, 0, 0), (368, .invokevirtual 48, 371, 183, 1, 0), (371, .if_icmp .eq 623, 374, 994, 0, 0), (374, .iconst 0, 375, 0, 0, 0), (375, .ireturn, 376, 0, 0, 0), (376, .aload_n 1, 377, 0, 0, 0), (377, .invokevirtual 49, 380, 118, 1, 0), (380, .aload_n 2, 381, 0, 0, 0), (381, .invokevirtual 52, 384, 185, 1, 0), (384, .if_icmp .eq 610, 387, 994, 0, 0), (387, .iconst 0, 388, 0, 0, 0), (388, .ireturn, 389, 0, 0, 0), (389, .aload_n 1, 390, 0, 0, 0), (390, .aload_n 0, 391, 0, 0, 0), (391, .iload_n 3, 392, 0, 0, 0), (392, .iconst 1, 393, 0, 0, 0), (393, .iadd, 394, 0, 0, 0), (394, .iaload, 395, 0, 0, 0), (395, .aload_n 0, 396, 0, 0, 0), (396, .iload_n 3, 397, 0, 0, 0), (397, .iconst 2, 398, 0, 0, 0), (398, .iadd, 399, 0, 0, 0), (399, .iaload, 400, 0, 0, 0), (400, .invokevirtual 53, 403, 119, 1, 0), (403, .aload_n 2, 404, 0, 0, 0), (404, .aload_n 0, 405, 0, 0, 0), (405, .iload_n 3, 406, 0, 0, 0), (406, .iconst 1, 407, 0, 0, 0), (407, .iadd, 408, 0, 0, 0), (408, .iaload, 409, 0, 0, 0), (409, .aload_n 0, 410, 0, 0, 0), (410, .iload_n 3, 411, 0, 0, 0), (411, .iconst 2, 412, 0, 0, 0), (412, .iadd, 413, 0, 0, 0), (413, .iaload, 414, 0, 0, 0), (414, .invokevirtual 56, 417, 186, 1, 0), (417, .if_icmp .eq 577, 420, 994, 0, 0), (420, .iconst 0, 421, 0, 0, 0), (421, .ireturn, 422, 0, 0, 0), (422, .aload_n 1, 423, 0, 0, 0), (423, .aload_n 0, 424, 0, 0, 0), (424, .iload_n 3, 425, 0, 0, 0), (425, .iconst 1, 426, 0, 0, 0), (426, .iadd, 427, 0, 0, 0), (427, .iaload, 428, 0, 0, 0), (428, .invokevirtual 57, 431, 120, 1, 0), (431, .aload_n 2, 432, 0, 0, 0), (432, .aload_n 0, 433, 0, 0, 0), (433, .iload_n 3, 434, 0, 0, 0), (434, .iconst 1, 435, 0, 0, 0), (435, .iadd, 436, 0, 0, 0), (436, .iaload, 437, 0, 0, 0), (437, .invokevirtual 60, 440, 187, 1, 0), (440, .if_icmp .eq 554, 443, 994, 0, 0), (443, .iconst 0, 444, 0, 0, 0), (444, .ireturn, 445, 0, 0, 0), (445, .aload_n 1, 446, 0, 0, 0), (446, .aload_n 0, 447, 0, 0, 0), (447, .iload_n 3, 448, 0, 0, 0)]
def tb_Law_law_4 : List (Nat × EN) := [(448, .iconst 1, 449, 0, 0, 0), (449, .iadd, 450, 0, 0, 0), (450, .iaload, 451, 0, 0, 0), (451, .invokevirtual 61, 454, 121, 1, 0), (454, .aload_n 2, 455, 0, 0, 0), (455, .aload_n 0, 456, 0, 0, 0), (456, .iload_n 3, 457, 0, 0, 0), (457, .iconst 1, 458, 0, 0, 0), (458, .iadd, 459, 0, 0, 0), (459, .iaload, 460, 0, 0, 0), (460, .invokevirtual 64, 463, 188, 1, 0), (463, .if_icmp .eq 531, 466, 994, 0, 0), (466, .iconst 0, 467, 0, 0, 0), (467, .ireturn, 468, 0, 0, 0), (468, .aload_n 1, 469, 0, 0, 0), (469, .invokevirtual 65, 472, 122, 1, 0), (472, .aload_n 2, 473, 0, 0, 0), (473, .invokevirtual 68, 476, 190, 1, 0), (476, .if_icmp .eq 518, 479, 994, 0, 0), (479, .iconst 0, 480, 0, 0, 0), (480, .ireturn, 481, 0, 0, 0), (481, .aload_n 1, 482, 0, 0, 0), (482, .aload_n 0, 483, 0, 0, 0), (483, .iload_n 3, 484, 0, 0, 0), (484, .iconst 1, 485, 0, 0, 0), (485, .iadd, 486, 0, 0, 0), (486, .iaload, 487, 0, 0, 0), (487, .aload_n 0, 488, 0, 0, 0), (488, .iload_n 3, 489, 0, 0, 0), (489, .iconst 2, 490, 0, 0, 0), (490, .iadd, 491, 0, 0, 0), (491, .iaload, 492, 0, 0, 0), (492, .aload_n 0, 493, 0, 0, 0), (493, .iload_n 3, 494, 0, 0, 0), (494, .iconst 3, 495, 0, 0, 0), (495, .iadd, 496, 0, 0, 0), (496, .iaload, 497, 0, 0, 0), (497, .invokevirtual 69, 500, 123, 1, 0), (500, .aload_n 2, 501, 0, 0, 0), (501, .aload_n 0, 502, 0, 0, 0), (502, .iload_n 3, 503, 0, 0, 0), (503, .iconst 1, 504, 0, 0, 0), (504, .iadd, 505, 0, 0, 0), (505, .iaload, 506, 0, 0, 0), (506, .aload_n 0, 507, 0, 0, 0), (507, .iload_n 3, 508, 0, 0, 0), (508, .iconst 2, 509, 0, 0, 0), (509, .iadd, 510, 0, 0, 0), (510, .iaload, 511, 0, 0, 0), (511, .aload_n 0, 512, 0, 0, 0), (512, .iload_n 3, 513, 0, 0, 0), (513, .iconst 3, 514, 0, 0, 0), (514, .iadd, 515, 0, 0, 0), (515, .iaload, 516, 0, 0, 0), (516, .invokevirtual 73, 519, 192, 1, 0), (519, .if_icmp .eq 475, 522, 994, 0, 0), (522, .iconst 0, 523, 0, 0, 0), (523, .ireturn, 524, 0, 0, 0), (524, .aload_n 1, 525, 0, 0, 0), (525, .aload_n 0, 526, 0, 0, 0)]
def tb_Law_law_5 : List (Nat × EN) := [(526, .iload_n 3, 527, 0, 0, 0), (527, .iconst 1, 528, 0, 0, 0), (528, .iadd, 529, 0, 0, 0), (529, .iaload, 530, 0, 0, 0), (530, .invokevirtual 74, 533, 124, 1, 0), (533, .aload_n 2, 534, 0, 0, 0), (534, .aload_n 0, 535, 0, 0, 0), (535, .iload_n 3, 536, 0, 0, 0), (536, .iconst 1, 537, 0, 0, 0), (537, .iadd, 538, 0, 0, 0), (538, .iaload, 539, 0, 0, 0), (539, .invokevirtual 77, 542, 193, 1, 0), (542, .if_icmp .eq 452, 545, 994, 0, 0), (545, .iconst 0, 546, 0, 0, 0), (546, .ireturn, 547, 0, 0, 0), (547, .aload_n 1, 548, 0, 0, 0), (548, .aload_n 0, 549, 0, 0, 0), (549, .iload_n 3, 550, 0, 0, 0), (550, .iconst 1, 551, 0, 0, 0), (551, .iadd, 552, 0, 0, 0), (552, .iaload, 553, 0, 0, 0), (553, .aload_n 0, 554, 0, 0, 0), (554, .iload_n 3, 555, 0, 0, 0), (555, .iconst 2, 556, 0, 0, 0), (556, .iadd, 557, 0, 0, 0), (557, .iaload, 558, 0, 0, 0), (558, .aload_n 0, 559, 0, 0, 0), (559, .iload_n 3, 560, 0, 0, 0), (560, .iconst 3, 561, 0, 0, 0), (561, .iadd, 562, 0, 0, 0), (562, .iaload, 563, 0, 0, 0), (563, .aload_n 0, 564, 0, 0, 0), (564, .iload_n 3, 565, 0, 0, 0), (565, .iconst 4, 566, 0, 0, 0), (566, .iadd, 567, 0, 0, 0), (567, .iaload, 568, 0, 0, 0), (568, .aload_n 0, 569, 0, 0, 0), (569, .iload_n 3, 570, 0, 0, 0), (570, .iconst 5, 571, 0, 0, 0), (571, .iadd, 572, 0, 0, 0), (572, .iaload, 573, 0, 0, 0), (573, .aload_n 0, 574, 0, 0, 0), (574, .iload_n 3, 575, 0, 0, 0), (575, .bipush 6, 577, 0, 0, 0), (577, .iadd, 578, 0, 0, 0), (578, .iaload, 579, 0, 0, 0), (579, .invokevirtual 78, 582, 125, 1, 0), (582, .aload_n 2, 583, 0, 0, 0), (583, .aload_n 0, 584, 0, 0, 0), (584, .iload_n 3, 585, 0, 0, 0), (585, .iconst 1, 586, 0, 0, 0), (586, .iadd, 587, 0, 0, 0), (587, .iaload, 588, 0, 0, 0), (588, .aload_n 0, 589, 0, 0, 0), (589, .iload_n 3, 590, 0, 0, 0), (590, .iconst 2, 591, 0, 0, 0), (591, .iadd, 592, 0, 0, 0), (592, .iaload, 593, 0, 0, 0), (593, .aload_n 0, 594, 0, 0, 0), (594, .iload_n 3, 595, 0, 0, 0)]
def tb_Law_law_6 : List (Nat × EN) := [(595, .iconst 3, 596, 0, 0, 0), (596, .iadd, 597, 0, 0, 0), (597, .iaload, 598, 0, 0, 0), (598, .aload_n 0, 599, 0, 0, 0), (599, .iload_n 3, 600, 0, 0, 0), (600, .iconst 4, 601, 0, 0, 0), (601, .iadd, 602, 0, 0, 0), (602, .iaload, 603, 0, 0, 0), (603, .aload_n 0, 604, 0, 0, 0), (604, .iload_n 3, 605, 0, 0, 0), (605, .iconst 5, 606, 0, 0, 0), (606, .iadd, 607, 0, 0, 0), (607, .iaload, 608, 0, 0, 0), (608, .aload_n 0, 609, 0, 0, 0), (609, .iload_n 3, 610, 0, 0, 0), (610, .bipush 6, 612, 0, 0, 0), (612, .iadd, 613, 0, 0, 0), (613, .iaload, 614, 0, 0, 0), (614, .invokevirtual 82, 617, 195, 1, 0), (617, .lcmp, 618, 0, 0, 0), (618, .ifCond .eq 376, 621, 994, 0, 0), (621, .iconst 0, 622, 0, 0, 0), (622, .ireturn, 623, 0, 0, 0), (623, .aload_n 1, 624, 0, 0, 0), (624, .aload_n 0, 625, 0, 0, 0), (625, .iload_n 3, 626, 0, 0, 0), (626, .iconst 1, 627, 0, 0, 0), (627, .iadd, 628, 0, 0, 0), (628, .iaload, 629, 0, 0, 0), (629, .aload_n 0, 630, 0, 0, 0), (630, .iload_n 3, 631, 0, 0, 0), (631, .iconst 2, 632, 0, 0, 0), (632, .iadd, 633, 0, 0, 0), (633, .iaload, 634, 0, 0, 0), (634, .invokevirtual 83, 637, 126, 1, 0), (637, .aload_n 2, 638, 0, 0, 0), (638, .aload_n 0, 639, 0, 0, 0), (639, .iload_n 3, 640, 0, 0, 0), (640, .iconst 1, 641, 0, 0, 0), (641, .iadd, 642, 0, 0, 0), (642, .iaload, 643, 0, 0, 0), (643, .aload_n 0, 644, 0, 0, 0), (644, .iload_n 3, 645, 0, 0, 0), (645, .iconst 2, 646, 0, 0, 0), (646, .iadd, 647, 0, 0, 0), (647, .iaload, 648, 0, 0, 0), (648, .invokevirtual 86, 651, 196, 1, 0), (651, .if_icmp .eq 343, 654, 994, 0, 0), (654, .iconst 0, 655, 0, 0, 0), (655, .ireturn, 656, 0, 0, 0), (656, .aload_n 1, 657, 0, 0, 0), (657, .aload_n 0, 658, 0, 0, 0), (658, .iload_n 3, 659, 0, 0, 0), (659, .iconst 1, 660, 0, 0, 0), (660, .iadd, 661, 0, 0, 0), (661, .iaload, 662, 0, 0, 0), (662, .aload_n 0, 663, 0, 0, 0), (663, .iload_n 3, 664, 0, 0, 0), (664, .iconst 2, 665, 0, 0, 0), (665, .iadd, 666, 0, 0, 0)]
def tb_Law_law_7 : List (Nat × EN) := [(666, .iaload, 667, 0, 0, 0), (667, .aload_n 0, 668, 0, 0, 0), (668, .iload_n 3, 669, 0, 0, 0), (669, .iconst 3, 670, 0, 0, 0), (670, .iadd, 671, 0, 0, 0), (671, .iaload, 672, 0, 0, 0), (672, .aload_n 0, 673, 0, 0, 0), (673, .iload_n 3, 674, 0, 0, 0), (674, .iconst 4, 675, 0, 0, 0), (675, .iadd, 676, 0, 0, 0), (676, .iaload, 677, 0, 0, 0), (677, .aload_n 0, 678, 0, 0, 0), (678, .iload_n 3, 679, 0, 0, 0), (679, .iconst 5, 680, 0, 0, 0), (680, .iadd, 681, 0, 0, 0), (681, .iaload, 682, 0, 0, 0), (682, .invokevirtual 87, 685, 127, 1, 0), (685, .aload_n 2, 686, 0, 0, 0), (686, .aload_n 0, 687, 0, 0, 0), (687, .iload_n 3, 688, 0, 0, 0), (688, .iconst 1, 689, 0, 0, 0), (689, .iadd, 690, 0, 0, 0), (690, .iaload, 691, 0, 0, 0), (691, .aload_n 0, 692, 0, 0, 0), (692, .iload_n 3, 693, 0, 0, 0), (693, .iconst 2, 694, 0, 0, 0), (694, .iadd, 695, 0, 0, 0), (695, .iaload, 696, 0, 0, 0), (696, .aload_n 0, 697, 0, 0, 0), (697, .iload_n 3, 698, 0, 0, 0), (698, .iconst 3, 699, 0, 0, 0), (699, .iadd, 700, 0, 0, 0), (700, .iaload, 701, 0, 0, 0), (701, .aload_n 0, 702, 0, 0, 0), (702, .iload_n 3, 703, 0, 0, 0), (703, .iconst 4, 704, 0, 0, 0), (704, .iadd, 705, 0, 0, 0), (705, .iaload, 706, 0, 0, 0), (706, .aload_n 0, 707, 0, 0, 0), (707, .iload_n 3, 708, 0, 0, 0), (708, .iconst 5, 709, 0, 0, 0), (709, .iadd, 710, 0, 0, 0), (710, .iaload, 711, 0, 0, 0), (711, .invokevirtual 91, 714, 198, 1, 0), (714, .lcmp, 715, 0, 0, 0), (715, .ifCond .eq 279, 718, 994, 0, 0), (718, .iconst 0, 719, 0, 0, 0), (719, .ireturn, 720, 0, 0, 0), (720, .aload_n 1, 721, 0, 0, 0), (721, .aload_n 0, 722, 0, 0, 0), (722, .iload_n 3, 723, 0, 0, 0), (723, .iconst 1, 724, 0, 0, 0), (724, .iadd, 725, 0, 0, 0), (725, .iaload, 726, 0, 0, 0), (726, .aload_n 0, 727, 0, 0, 0), (727, .iload_n 3, 728, 0, 0, 0), (728, .iconst 2, 729, 0, 0, 0), (729, .iadd, 730, 0, 0, 0), (730, .iaload, 731, 0, 0, 0), (731, .aload_n 0, 732, 0, 0, 0)]
def tb_Law_law_8 : List (Nat × EN) := [(732, .iload_n 3, 733, 0, 0, 0), (733, .iconst 3, 734, 0, 0, 0), (734, .iadd, 735, 0, 0, 0), (735, .iaload, 736, 0, 0, 0), (736, .aload_n 0, 737, 0, 0, 0), (737, .iload_n 3, 738, 0, 0, 0), (738, .iconst 4, 739, 0, 0, 0), (739, .iadd, 740, 0, 0, 0), (740, .iaload, 741, 0, 0, 0), (741, .invokevirtual 92, 744, 128, 1, 0), (744, .aload_n 2, 745, 0, 0, 0), (745, .aload_n 0, 746, 0, 0, 0), (746, .iload_n 3, 747, 0, 0, 0), (747, .iconst 1, 748, 0, 0, 0), (748, .iadd, 749, 0, 0, 0), (749, .iaload, 750, 0, 0, 0), (750, .aload_n 0, 751, 0, 0, 0), (751, .iload_n 3, 752, 0, 0, 0), (752, .iconst 2, 753, 0, 0, 0), (753, .iadd, 754, 0, 0, 0), (754, .iaload, 755, 0, 0, 0), (755, .aload_n 0, 756, 0, 0, 0), (756, .iload_n 3, 757, 0, 0, 0), (757, .iconst 3, 758, 0, 0, 0), (758, .iadd, 759, 0, 0, 0), (759, .iaload, 760, 0, 0, 0), (760, .aload_n 0, 761, 0, 0, 0), (761, .iload_n 3, 762, 0, 0, 0), (762, .iconst 4, 763, 0, 0, 0), (763, .iadd, 764, 0, 0, 0), (764, .iaload, 765, 0, 0, 0), (765, .invokevirtual 96, 768, 199, 1, 0), (768, .lcmp, 769, 0, 0, 0), (769, .ifCond .eq 225, 772, 994, 0, 0), (772, .iconst 0, 773, 0, 0, 0), (773, .ireturn, 774, 0, 0, 0), (774, .aload_n 1, 775, 0, 0, 0), (775, .aload_n 0, 776, 0, 0, 0), (776, .iload_n 3, 777, 0, 0, 0), (777, .iconst 1, 778, 0, 0, 0), (778, .iadd, 779, 0, 0, 0), (779, .iaload, 780, 0, 0, 0), (780, .aload_n 0, 781, 0, 0, 0), (781, .iload_n 3, 782, 0, 0, 0), (782, .iconst 2, 783, 0, 0, 0), (783, .iadd, 784, 0, 0, 0), (784, .iaload, 785, 0, 0, 0), (785, .ifCond .eq 7, 788, 792, 0, 0), (788, .iconst 1, 789, 0, 0, 0), (789, .goto 4, 792, 793, 0, 0), (792, .iconst 0, 793, 0, 0, 0), (793, .invokevirtual 97, 796, 129, 1, 0), (796, .aload_n 2, 797, 0, 0, 0), (797, .aload_n 0, 798, 0, 0, 0), (798, .iload_n 3, 799, 0, 0, 0), (799, .iconst 1, 800, 0, 0, 0), (800, .iadd, 801, 0, 0, 0), (801, .iaload, 802, 0, 0, 0), (802, .aload_n 0, 803, 0, 0, 0), (803, .iload_n 3, 804, 0, 0, 0)]
def tb_Law_law_9 : List (Nat × EN) := [(804, .iconst 2, 805, 0, 0, 0), (805, .iadd, 806, 0, 0, 0), (806, .iaload, 807, 0, 0, 0), (807, .ifCond .eq 7, 810, 814, 0, 0), (810, .iconst 1, 811, 0, 0, 0), (811, .goto 4, 814, 815, 0, 0), (814, .iconst 0, 815, 0, 0, 0), (815, .invokevirtual 100, 818, 200, 1, 0), (818, .if_icmp .eq 176, 821, 994, 0, 0), (821, .iconst 0, 822, 0, 0, 0), (822, .ireturn, 823, 0, 0, 0), (823, .aload_n 1, 824, 0, 0, 0), (824, .invokevirtual 101, 827, 130, 1, 0), (827, .aload_n 2, 828, 0, 0, 0), (828, .invokevirtual 104, 831, 201, 1, 0), (831, .if_icmp .eq 163, 834, 994, 0, 0), (834, .iconst 0, 835, 0, 0, 0), (835, .ireturn, 836, 0, 0, 0), (836, .aload_n 1, 837, 0, 0, 0), (837, .aload_n 0, 838, 0, 0, 0), (838, .iload_n 3, 839, 0, 0, 0), (839, .iconst 1, 840, 0, 0, 0), (840, .iadd, 841, 0, 0, 0), (841, .iaload, 842, 0, 0, 0), (842, .invokevirtual 105, 845, 131, 1, 0), (845, .aload_n 2, 846, 0, 0, 0), (846, .aload_n 0, 847, 0, 0, 0), (847, .iload_n 3, 848, 0, 0, 0), (848, .iconst 1, 849, 0, 0, 0), (849, .iadd, 850, 0, 0, 0), (850, .iaload, 851, 0, 0, 0), (851, .invokevirtual 108, 854, 204, 1, 0), (854, .if_icmp .eq 140, 857, 994, 0, 0), (857, .iconst 0, 858, 0, 0, 0), (858, .ireturn, 859, 0, 0, 0), (859, .aload_n 1, 860, 0, 0, 0), (860, .aload_n 0, 861, 0, 0, 0), (861, .iload_n 3, 862, 0, 0, 0), (862, .iconst 1, 863, 0, 0, 0), (863, .iadd, 864, 0, 0, 0), (864, .iaload, 865, 0, 0, 0), (865, .invokevirtual 109, 868, 132, 1, 0), (868, .aload_n 2, 869, 0, 0, 0), (869, .aload_n 0, 870, 0, 0, 0), (870, .iload_n 3, 871, 0, 0, 0), (871, .iconst 1, 872, 0, 0, 0), (872, .iadd, 873, 0, 0, 0), (873, .iaload, 874, 0, 0, 0), (874, .invokevirtual 112, 877, 205, 1, 0), (877, .if_icmp .eq 117, 880, 994, 0, 0), (880, .iconst 0, 881, 0, 0, 0), (881, .ireturn, 882, 0, 0, 0), (882, .aload_n 1, 883, 0, 0, 0), (883, .aload_n 0, 884, 0, 0, 0), (884, .iload_n 3, 885, 0, 0, 0), (885, .iconst 1, 886, 0, 0, 0), (886, .iadd, 887, 0, 0, 0), (887, .iaload, 888, 0, 0, 0), (888, .aload_n 0, 889, 0, 0, 0), (889, .iload_n 3, 890, 0, 0, 0)]
def tb_Law_law_10 : List (Nat × EN) := [(890, .iconst 2, 891, 0, 0, 0), (891, .iadd, 892, 0, 0, 0), (892, .iaload, 893, 0, 0, 0), (893, .aload_n 0, 894, 0, 0, 0), (894, .iload_n 3, 895, 0, 0, 0), (895, .iconst 3, 896, 0, 0, 0), (896, .iadd, 897, 0, 0, 0), (897, .iaload, 898, 0, 0, 0), (898, .invokevirtual 113, 901, 133, 1, 0), (901, .aload_n 2, 902, 0, 0, 0), (902, .aload_n 0, 903, 0, 0, 0), (903, .iload_n 3, 904, 0, 0, 0), (904, .iconst 1, 905, 0, 0, 0), (905, .iadd, 906, 0, 0, 0), (906, .iaload, 907, 0, 0, 0), (907, .aload_n 0, 908, 0, 0, 0), (908, .iload_n 3, 909, 0, 0, 0), (909, .iconst 2, 910, 0, 0, 0), (910, .iadd, 911, 0, 0, 0), (911, .iaload, 912, 0, 0, 0), (912, .aload_n 0, 913, 0, 0, 0), (913, .iload_n 3, 914, 0, 0, 0), (914, .iconst 3, 915, 0, 0, 0), (915, .iadd, 916, 0, 0, 0), (916, .iaload, 917, 0, 0, 0), (917, .invokevirtual 116, 920, 206, 1, 0), (920, .if_icmp .eq 74, 923, 994, 0, 0), (923, .iconst 0, 924, 0, 0, 0), (924, .ireturn, 925, 0, 0, 0), (925, .aload_n 1, 926, 0, 0, 0), (926, .aload_n 0, 927, 0, 0, 0), (927, .iload_n 3, 928, 0, 0, 0), (928, .iconst 1, 929, 0, 0, 0), (929, .iadd, 930, 0, 0, 0), (930, .iaload, 931, 0, 0, 0), (931, .invokevirtual 117, 934, 134, 1, 0), (934, .aload_n 2, 935, 0, 0, 0), (935, .aload_n 0, 936, 0, 0, 0), (936, .iload_n 3, 937, 0, 0, 0), (937, .iconst 1, 938, 0, 0, 0), (938, .iadd, 939, 0, 0, 0), (939, .iaload, 940, 0, 0, 0), (940, .invokevirtual 120, 943, 207, 1, 0), (943, .if_icmp .eq 51, 946, 994, 0, 0), (946, .iconst 0, 947, 0, 0, 0), (947, .ireturn, 948, 0, 0, 0), (948, .aload_n 1, 949, 0, 0, 0), (949, .aload_n 0, 950, 0, 0, 0), (950, .iload_n 3, 951, 0, 0, 0), (951, .iconst 1, 952, 0, 0, 0), (952, .iadd, 953, 0, 0, 0), (953, .iaload, 954, 0, 0, 0), (954, .invokevirtual 121, 957, 135, 1, 0), (957, .aload_n 2, 958, 0, 0, 0), (958, .aload_n 0, 959, 0, 0, 0), (959, .iload_n 3, 960, 0, 0, 0), (960, .iconst 1, 961, 0, 0, 0), (961, .iadd, 962, 0, 0, 0), (962, .iaload, 963, 0, 0, 0), (963, .invokevirtual 124, 966, 208, 1, 0)]
def tb_Law_law_11 : List (Nat × EN) := [(966, .if_icmp .eq 28, 969, 994, 0, 0), (969, .iconst 0, 970, 0, 0, 0), (970, .ireturn, 971, 0, 0, 0), (971, .aload_n 1, 972, 0, 0, 0), (972, .aload_n 0, 973, 0, 0, 0), (973, .iload_n 3, 974, 0, 0, 0), (974, .iconst 1, 975, 0, 0, 0), (975, .iadd, 976, 0, 0, 0), (976, .iaload, 977, 0, 0, 0), (977, .invokevirtual 125, 980, 136, 1, 0), (980, .aload_n 2, 981, 0, 0, 0), (981, .aload_n 0, 982, 0, 0, 0), (982, .iload_n 3, 983, 0, 0, 0), (983, .iconst 1, 984, 0, 0, 0), (984, .iadd, 985, 0, 0, 0), (985, .iaload, 986, 0, 0, 0), (986, .invokevirtual 128, 989, 209, 1, 0), (989, .if_icmp .eq 5, 992, 994, 0, 0), (992, .iconst 0, 993, 0, 0, 0), (993, .ireturn, 994, 0, 0, 0), (994, .iinc 3 7, 997, 0, 0, 0), (997, .goto (-979), 1000, 18, 0, 0), (1000, .iconst 1, 1001, 0, 0, 0), (1001, .ireturn, 1002, 0, 0, 0)]
def tb_Law_law : List (Nat × EN) := tb_Law_law_0 ++ tb_Law_law_1 ++ tb_Law_law_2 ++ tb_Law_law_3 ++ tb_Law_law_4 ++ tb_Law_law_5 ++ tb_Law_law_6 ++ tb_Law_law_7 ++ tb_Law_law_8 ++ tb_Law_law_9 ++ tb_Law_law_10 ++ tb_Law_law_11
def TBL : List (List (Nat × EN)) := [tb_Chances_part, tb_Chances_commonDivisor, tb_Chances_mixed, tb_Chances_mixedInOrder, tb_Chances_isTheFirst, tb_Chances_winsRace, tb_Chances_power, tb_Defence_init, tb_Defence_letIn, tb_Defence_slides, tb_Defence_place, tb_Defence_shotsPastOthers, tb_Defence_tryKeeper, tb_Evening_init, tb_Evening_table, tb_Evening_acts, tb_Evening_stoppedAt, tb_Evening_reason, tb_Evening_firstGoal, tb_Evening_play, tb_Grasps_isRow, tb_Grasps_fewest, tb_Grasps_needed, tb_Grasps_latest, tb_Grasps_nextNeed, tb_Image_init, tb_Image_keep, tb_Image_giveBack, tb_Pad_init, tb_Pad_size, tb_Pad_add, tb_Pad_clear, tb_Pad_rewind, tb_Pad_isReadOut, tb_Pad_kind, tb_Pad_rod, tb_Pad_number, tb_Pad_faultPlace, tb_Pad_readAct, tb_Pad_takesHandling, tb_Pad_takesWay, tb_Pad_takes, tb_Pad_takesRod, tb_Pad_takesDigit, tb_Pad_nextSign, tb_Passes_init, tb_Passes_from, tb_Passes_countTo, tb_Passes_leads, tb_Passes_firstFrom, tb_Passes_receiver, tb_Passes_ownOnly, tb_Rods_isRod, tb_Rods_isMan, tb_Rods_sideOf, tb_Rods_menOf, tb_Rods_gapOf, tb_Rods_lastSlide, tb_Rods_isOf, tb_Rods_keeperOf, tb_Rods_backsOf, tb_Rods_stepToGoalOf, tb_Sights_init, tb_Sights_size, tb_Sights_add, tb_Sights_clear, tb_Sights_copyFrom, tb_Sights_findRows, tb_Sights_rowFound, tb_Sights_bestShot, tb_Sights_mostLeft, tb_Sights_isRow, tb_Sights_fitsAll, tb_Sights_sideBy, tb_Table_init, tb_Table_copyFrom, tb_Table_slideOf, tb_Table_slideTo, tb_Table_scoredBy, tb_Table_setScored, tb_Table_scoredInAll, tb_Table_heldRods, tb_Table_isHeld, tb_Table_heldBy, tb_Table_setHeld, tb_Table_tenth, tb_Table_isDead, tb_Table_ballRod, tb_Table_ballMan, tb_Table_ballPlace, tb_Table_loseBall, tb_Table_giveBall, tb_Table_placeOf, tb_Table_covererOf, tb_Table_nearestOf, tb_Table_overFrom, tb_Table_shotEnd, tb_Table_reachesGoal, tb_Table_shotsToGoal, tb_Table_shotsPast, tb_Table_bounced, tb_Table_whyNot, tb_Table_isPlayed, tb_Table_isHeldWrongly, tb_Table_isNextMan, tb_Table_perform, tb_Table_endShot, tb_Table_tryDrawn, tb_Table_drawnNumber, tb_F_init, tb_F_slide, tb_F_hold, tb_F_ball, tb_F_goals, tb_F_say, tb_F_wipe, tb_F_fault, tb_F_judge, tb_F_done, tb_F_behind, tb_F_then, tb_F_ends, tb_F_goesIn, tb_F_path, tb_F_stand, tb_F_mix, tb_F_hands, tb_F_truly, tb_F_race, tb_F_seen, tb_F_forget, tb_F_fits, tb_F_ask, tb_F_year, tb_F_image, tb_F_restore, tb_F_told, tb_F_toldByNumber, tb_F_playsThrough, tb_F_imageOf, tb_F_isWithin, tb_F_isBit, tb_F_isTenths, tb_F_shotBit, tb_F_copyRow, tb_M_init, tb_M_in, tb_M_bits, tb_M_isRod, tb_M_sideOf, tb_M_kindOf, tb_M_menOf, tb_M_apartOf, tb_M_widest, tb_M_isMan, tb_M_held, tb_M_slide, tb_M_hold, tb_M_ball, tb_M_goals, tb_M_say, tb_M_wipe, tb_M_step, tb_M_faultOf, tb_M_fault, tb_M_standsAt, tb_M_covers, tb_M_shotBy, tb_M_overBy, tb_M_asNow, tb_M_isOver, tb_M_grasp, tb_M_letGo, tb_M_slideBy, tb_M_whyNot, tb_M_passTo, tb_M_passOver, tb_M_shoot, tb_M_throwIn, tb_M_endTenth, tb_M_rodAct, tb_M_nextAct, tb_M_goEvenings, tb_M_judge, tb_M_barOfEvenings, tb_M_done, tb_M_behind, tb_M_then, tb_M_ends, tb_M_allIn, tb_M_goesIn, tb_M_passes, tb_M_path, tb_M_stand, tb_M_lowest, tb_M_mix, tb_M_hands, tb_M_power, tb_M_truly, tb_M_race, tb_M_seen, tb_M_forget, tb_M_sideAt, tb_M_isFit, tb_M_fits, tb_M_ask, tb_M_year, tb_M_image, tb_M_restore, tb_M_told, tb_Integer_bitCount, tb_Math_floorMod, tb_Math_abs, tb_Math_max, tb_Math_min, tb_Law_law]
def code_ (m pc : Nat) : Option EN := ((TBL[m]?).getD []).lookup pc
end
section
-- the small machine: whole numbers in place of int and long, places in a list in place of addresses
abbrev MV : Type := Int ⊕ (Int ⊕ (Nat ⊕ (Nat ⊕ Bool)))
abbrev vI (z : Int) : MV := .inl z
abbrev vL (z : Int) : MV := .inr (.inl z)
abbrev vR (k : Nat) : MV := .inr (.inr (.inl k))
abbrev vS (k : Nat) : MV := .inr (.inr (.inr (.inl k)))
abbrev vN : MV := .inr (.inr (.inr (.inr true)))
abbrev vU : MV := .inr (.inr (.inr (.inr false)))
abbrev HC : Type := (Nat × List MV) ⊕ (Nat × List Int)
abbrev MH : Type := List HC
abbrev inR (z : Int) : Prop := -2147483648 ≤ z ∧ z ≤ 2147483647
abbrev inL (z : Int) : Prop := -9223372036854775808 ≤ z ∧ z ≤ 9223372036854775807
abbrev SR : Type := Option (Nat × List MV × List MV × MH)
def mcat : MV → Nat
  | .inr (.inl _) => 2
  | _ => 1
def csum (st : List MV) : Nat := (st.map mcat).sum
def mClean (ls : List MV) (k : Nat) : List MV := match k with
  | 0 => ls
  | j + 1 => match ls[j]? with
    | some (.inr (.inl _)) => ls.set j vU
    | _ => ls
def mSt1 (ls : List MV) (k : Nat) (v : MV) : List MV := (mClean ls k).set k v
def mSt2 (ls : List MV) (k : Nat) (v : MV) : List MV := ((mClean ls k).set (k + 1) vU).set k v
def SA (xs : List Int) : Nat → List Int
  | 0 => [0, 0, 1, 0, 1, 0, 1, 1]
  | 1 => [1, 2, 3, 5, 5, 3, 2, 1]
  | 2 => [0, 16, 12, 8, 8, 12, 16, 0]
  | 3 => xs
  | _ => []
def miOf (m : Nat) : MIt := (MI[m]?).getD (0, ⟨"", "", ""⟩, code, 0, none, 0)
def clsM (m : Nat) : Nat := (miOf m).1
def yM (m : Nat) : MethodName := (miOf m).2.1
def byM (m : Nat) : ByteArray := (miOf m).2.2.1
def mxM (m : Nat) : Nat := (miOf m).2.2.2.1
def retM (m : Nat) : Option FieldType := (miOf m).2.2.2.2.1
def npM (m : Nat) : Nat := (miOf m).2.2.2.2.2
def FDp (m : Nat) : Nat := (FDl[m]?).getD 0
def LDp (m : Nat) : Nat := (LDl[m]?).getD 0
def tyC : Nat → Nat → FieldType
  | 0 => tyX1 | 1 => tyX2 | 2 => tyX4 | 3 => tyX5 | 4 => tyX6 | 5 => tyX8 | 6 => tyX9 | 7 => tyX10 | 8 => tyX11
  | _ => fun _ => .int
def nfC (a : Nat) : Nat := ((CL[a]?).getD ("", TX1, 0)).2.2
def dfT : FieldType → MV
  | .int => vI 0
  | .boolean => vI 0
  | .long => vL 0
  | _ => vN
def dfC (a : Nat) : List MV := (List.range (nfC a)).map fun k => dfT (tyC a k)
def bAnd (x y : Int) : Int := ((Int32.ofInt x) &&& (Int32.ofInt y)).toInt
def bOr (x y : Int) : Int := ((Int32.ofInt x) ||| (Int32.ofInt y)).toInt
def bXor (x y : Int) : Int := ((Int32.ofInt x) ^^^ (Int32.ofInt y)).toInt
def bShl (x y : Int) : Int := ((Int32.ofInt x) <<< ((Int32.ofInt y) &&& 31)).toInt
def bShr (x y : Int) : Int := ((Int32.ofInt x) >>> ((Int32.ofInt y) &&& 31)).toInt
def bUsh (x y : Int) : Int := (((Int32.ofInt x).toUInt32 >>> ((Int32.ofInt y).toUInt32 &&& Int32.toUInt32 31)).toInt32).toInt
def lcm (x y : Int) : Int := if y < x then 1 else if x = y then 0 else -1
def s1 {α : Type} (st : List MV) (f : Int → List MV → Option α) : Option α := match st with
  | .inl x :: r => f x r
  | _ => none
def s2 {α : Type} (st : List MV) (f : Int → Int → List MV → Option α) : Option α := match st with
  | .inl y :: .inl x :: r => f x y r
  | _ => none
def l1 {α : Type} (st : List MV) (f : Int → List MV → Option α) : Option α := match st with
  | .inr (.inl x) :: r => f x r
  | _ => none
def l2 {α : Type} (st : List MV) (f : Int → Int → List MV → Option α) : Option α := match st with
  | .inr (.inl y) :: .inr (.inl x) :: r => f x y r
  | _ => none
def ldI (np : Nat) (ls st : List MV) (h : MH) (k : Nat) : SR := match ls[k]? with
  | some (.inl x) => some (np, ls, vI x :: st, h)
  | _ => none
def ldL (np : Nat) (ls st : List MV) (h : MH) (k : Nat) : SR := match ls[k]? with
  | some (.inr (.inl x)) => some (np, ls, vL x :: st, h)
  | _ => none
def ldA (np : Nat) (ls st : List MV) (h : MH) (k : Nat) : SR := match ls[k]? with
  | some (.inr (.inr (.inl x))) => some (np, ls, vR x :: st, h)
  | some (.inr (.inr (.inr (.inl x)))) => some (np, ls, vS x :: st, h)
  | _ => none
def stI (np : Nat) (ls st : List MV) (h : MH) (k : Nat) : SR := match st with
  | .inl x :: r => if k < ls.length then some (np, mSt1 ls k (vI x), r, h) else none
  | _ => none
def stL (np : Nat) (ls st : List MV) (h : MH) (k : Nat) : SR := match st with
  | .inr (.inl x) :: r => if k + 1 < ls.length then some (np, mSt2 ls k (vL x), r, h) else none
  | _ => none
def stA (np : Nat) (ls st : List MV) (h : MH) (k : Nat) : SR := match st with
  | .inr (.inr (.inl x)) :: r => if k < ls.length then some (np, mSt1 ls k (vR x), r, h) else none
  | _ => none
def cmpZ : Jvm.ClassFile.Cond → Int → Int → Bool
  | .eq, x, y => decide (x = y)
  | .ne, x, y => !decide (x = y)
  | .lt, x, y => decide (x < y)
  | .ge, x, y => !decide (x < y)
  | .gt, x, y => !decide (x ≤ y)
  | .le, x, y => decide (x ≤ y)
def fkind (c : Int) : MV → Bool
  | .inl z => c == 0 || (c == 1 && (z == 0 || z == 1))
  | .inr (.inr (.inl _)) => c == 2
  | _ => false
def swT (d lo hi : Int) (offs : List Int) (x : Int) : Option Int := if x < lo ∨ hi < x then some d else offs[(x - lo).toNat]?
def jump (pc : Nat) (off : Option Int) (ls st : List MV) (h : MH) : SR := match off with
  | some o => if 0 ≤ (pc : Int) + o then some (((pc : Int) + o).toNat, ls, st, h) else none
  | none => none
def aGet (xs : List Int) (kd : Nat) (h : MH) (st : List MV) (f : Int → List MV → SR) : SR := match st with
  | .inl j :: .inr (.inr (.inl q)) :: r => match h[q]? with
    | some (.inr (k, l)) => if k = kd ∧ 0 ≤ j ∧ j < l.length ∧ j ≤ 2147483647 then f (l.getD j.toNat 0) r else none
    | _ => none
  | .inl j :: .inr (.inr (.inr (.inl s))) :: r => if kd = 0 ∧ s < 4 ∧ 0 ≤ j ∧ j < (SA xs s).length ∧ j ≤ 2147483647 then f ((SA xs s).getD j.toNat 0) r else none
  | _ => none
def aPut (kd : Nat) (h : MH) (q : Nat) (j x : Int) (np : Nat) (ls r : List MV) : SR := match h[q]? with
  | some (.inr (k, l)) => if k = kd ∧ 0 ≤ j ∧ j < l.length ∧ j ≤ 2147483647 then some (np, ls, r, h.set q (.inr (k, l.set j.toNat x))) else none
  | _ => none
def sstep (xs : List Int) (pc : Nat) (e : EN) (ls st : List MV) (h : MH) : SR := match e with
  | (I, np, a, b, c) => match I with
    | .iconst n => some (np, ls, vI n :: st, h)
    | .bipush n => some (np, ls, vI n :: st, h)
    | .sipush n => some (np, ls, vI n :: st, h)
    | .ldc _ => some (np, ls, vI c :: st, h)
    | .ldc_w _ => some (np, ls, vI c :: st, h)
    | .ldc2_w _ => some (np, ls, vL c :: st, h)
    | .lconst n => some (np, ls, vL (n.val : Int) :: st, h)
    | .iload k => ldI np ls st h k
    | .iload_n k => ldI np ls st h k.val
    | .lload k => ldL np ls st h k
    | .lload_n k => ldL np ls st h k.val
    | .aload k => ldA np ls st h k
    | .aload_n k => ldA np ls st h k.val
    | .istore k => stI np ls st h k
    | .istore_n k => stI np ls st h k.val
    | .lstore k => stL np ls st h k
    | .lstore_n k => stL np ls st h k.val
    | .astore k => stA np ls st h k
    | .astore_n k => stA np ls st h k.val
    | .iinc k n => match ls[k]? with
      | some (.inl x) => some (np, mSt1 ls k (vI (x + n)), st, h)
      | _ => none
    | .iadd => s2 st fun x y r => some (np, ls, vI (x + y) :: r, h)
    | .isub => s2 st fun x y r => some (np, ls, vI (x - y) :: r, h)
    | .imul => s2 st fun x y r => some (np, ls, vI (x * y) :: r, h)
    | .idiv => s2 st fun x y r => if inR x ∧ inR y ∧ y ≠ 0 then some (np, ls, vI (x.tdiv y) :: r, h) else none
    | .irem => s2 st fun x y r => if inR x ∧ inR y ∧ y ≠ 0 then some (np, ls, vI (x.tmod y) :: r, h) else none
    | .ineg => s1 st fun x r => some (np, ls, vI (-x) :: r, h)
    | .iand => s2 st fun x y r => some (np, ls, vI (bAnd x y) :: r, h)
    | .ior => s2 st fun x y r => some (np, ls, vI (bOr x y) :: r, h)
    | .ixor => s2 st fun x y r => some (np, ls, vI (bXor x y) :: r, h)
    | .ishl => s2 st fun x y r => some (np, ls, vI (bShl x y) :: r, h)
    | .ishr => s2 st fun x y r => some (np, ls, vI (bShr x y) :: r, h)
    | .iushr => s2 st fun x y r => some (np, ls, vI (bUsh x y) :: r, h)
    | .i2l => s1 st fun x r => if inR x then some (np, ls, vL x :: r, h) else none
    | .ladd => l2 st fun x y r => some (np, ls, vL (x + y) :: r, h)
    | .lsub => l2 st fun x y r => some (np, ls, vL (x - y) :: r, h)
    | .lmul => l2 st fun x y r => some (np, ls, vL (x * y) :: r, h)
    | .ldiv => l2 st fun x y r => if inL x ∧ inL y ∧ y ≠ 0 then some (np, ls, vL (x.tdiv y) :: r, h) else none
    | .lrem => l2 st fun x y r => if inL x ∧ inL y ∧ y ≠ 0 then some (np, ls, vL (x.tmod y) :: r, h) else none
    | .lneg => l1 st fun x r => some (np, ls, vL (-x) :: r, h)
    | .lcmp => l2 st fun x y r => if inL x ∧ inL y then some (np, ls, vI (lcm x y) :: r, h) else none
    | .dup => match st with
      | v :: r => if mcat v = 1 then some (np, ls, v :: v :: r, h) else none
      | _ => none
    | .dup2 => match st with
      | v :: w :: r => if mcat v = 1 ∧ mcat w = 1 then some (np, ls, v :: w :: v :: w :: r, h) else none
      | _ => none
    | .goto _ => some (a, ls, st, h)
    | .ifCond o _ => s1 st fun x r => if inR x then some (if cmpZ o x 0 then a else np, ls, r, h) else none
    | .if_icmp o _ => s2 st fun x y r => if inR x ∧ inR y then some (if cmpZ o x y then a else np, ls, r, h) else none
    | .ifnull _ => match st with
      | .inr (.inr (.inl _)) :: r => some (np, ls, r, h)
      | _ => none
    | .ifnonnull _ => match st with
      | .inr (.inr (.inl _)) :: r => some (a, ls, r, h)
      | _ => none
    | .tableswitch d lo hi offs => s1 st fun x r => if inR x then jump pc (swT d lo hi offs.toList x) ls r h else none
    | .lookupswitch d ps => s1 st fun x r => if inR x ∧ (ps.toList.zip (ps.toList.drop 1)).all (fun q => q.1.1 < q.2.1) = true then jump pc (some (Op.lookupswitch.offset ps.toList d x)) ls r h else none
    | .getfield _ => match st with
      | .inr (.inr (.inl q)) :: r => match h[q]? with
        | some (.inl (ci, fs)) => if ci = a then (match fs[b]? with
          | some v => some (np, ls, v :: r, h)
          | none => none) else none
        | _ => none
      | _ => none
    | .putfield _ => match st with
      | v :: .inr (.inr (.inl q)) :: r => match h[q]? with
        | some (.inl (ci, fs)) => if ci = a ∧ b < fs.length ∧ fkind c v = true then some (np, ls, r, h.set q (.inl (ci, fs.set b v))) else none
        | _ => none
      | _ => none
    | .getstatic _ => some (np, ls, vS a :: st, h)
    | .iaload => aGet xs 0 h st fun z r => some (np, ls, vI z :: r, h)
    | .laload => aGet xs 1 h st fun z r => some (np, ls, vL z :: r, h)
    | .baload => aGet xs 2 h st fun z r => some (np, ls, vI z :: r, h)
    | .iastore => match st with
      | .inl x :: .inl j :: .inr (.inr (.inl q)) :: r => aPut 0 h q j x np ls r
      | _ => none
    | .lastore => match st with
      | .inr (.inl x) :: .inl j :: .inr (.inr (.inl q)) :: r => aPut 1 h q j x np ls r
      | _ => none
    | .bastore => match st with
      | .inl x :: .inl j :: .inr (.inr (.inl q)) :: r => if x = 0 ∨ x = 1 then aPut 2 h q j x np ls r else none
      | _ => none
    | .arraylength => match st with
      | .inr (.inr (.inl q)) :: r => match h[q]? with
        | some (.inr (_, l)) => some (np, ls, vI (l.length : Int) :: r, h)
        | _ => none
      | .inr (.inr (.inr (.inl s))) :: r => if s < 4 then some (np, ls, vI ((SA xs s).length : Int) :: r, h) else none
      | _ => none
    | .newarray t => s1 st fun n r => if 0 ≤ n ∧ n ≤ 1000000 then (match t with
      | .int => some (np, ls, vR h.length :: r, h ++ [.inr (0, List.replicate n.toNat 0)])
      | .long => some (np, ls, vR h.length :: r, h ++ [.inr (1, List.replicate n.toNat 0)])
      | .boolean => some (np, ls, vR h.length :: r, h ++ [.inr (2, List.replicate n.toNat 0)])
      | _ => none) else none
    | .new _ => some (np, ls, vR h.length :: st, h ++ [.inl (a, dfC a)])
    | _ => none
def mret (m : Nat) (I : Instr) (st : List MV) : Option (Option MV) := match I with
  | .ireturn => match st with
    | [.inl z] => if retM m = some .int ∨ (retM m = some .boolean ∧ (z = 0 ∨ z = 1)) then some (some (vI z)) else none
    | _ => none
  | .lreturn => match st with
    | [.inr (.inl z)] => if retM m = some .long then some (some (vL z)) else none
    | _ => none
  | .areturn => match st with
    | [.inr (.inr (.inl q))] => match retM m with
      | some (.object _) => some (some (vR q))
      | _ => none
    | _ => none
  | .return_ => match st with
    | [] => if retM m = none then some none else none
    | _ => none
  | _ => none
def kindI : Instr → Nat
  | .ireturn => 1
  | .lreturn => 1
  | .areturn => 1
  | .return_ => 1
  | .invokestatic _ => 2
  | .invokevirtual _ => 2
  | .invokespecial _ => 2
  | _ => 0
def recvOK (b a : Nat) (as : List MV) (h : MH) : Bool := b == 0 || b == 3 || (match as with
  | .inr (.inr (.inl q)) :: _ => (match h[q]? with
    | some (.inl (ci, _)) => ci == clsM a
    | _ => false)
  | _ => false)
def naC (b a : Nat) : Nat := npM a + (if b = 0 ∨ b = 3 then 0 else 1)
def pushR (r : Option MV) (st : List MV) : List MV := match r with
  | some v => v :: st
  | none => st
def mcall (F : Nat) (call : Nat → Nat → List MV → MH → Option (Option MV × MH)) (Lr : Nat) (e : EN) (st : List MV) (h : MH) : Option (List MV × MH) := match e with
  | (_, _, a, b, _) =>
    if b = 5 then (match st with
      | .inr (.inr (.inl _)) :: r => if 1 ≤ F ∧ 20 ≤ Lr ∧ csum r ≤ 8 then some (r, h) else none
      | _ => none)
    else if naC b a ≤ st.length ∧ csum (st.drop (naC b a)) ≤ 8 ∧ 19 + mxM a ≤ Lr ∧ recvOK b a (st.take (naC b a)).reverse h = true then
      (match call (Lr - (19 + mxM a)) a (st.take (naC b a)).reverse h with
      | some (r, h') => some (pushR r (st.drop (naC b a)), h')
      | none => none)
    else none
def goN (xs : List Int) (F : Nat) (call : Nat → Nat → List MV → MH → Option (Option MV × MH)) : Nat → Nat → Nat → Nat → List MV → List MV → MH → Option (Option MV × MH)
  | 0, _, _, _, _, _, _ => none
  | n + 1, Lr, m, pc, ls, st, h => match code_ m pc with
    | none => none
    | some e => if kindI e.1 = 1 then (match mret m e.1 st with
        | some r => some (r, h)
        | none => none)
      else if kindI e.1 = 2 then (match mcall F call Lr e st h with
        | some (st', h') => goN xs F call n Lr m e.2.1 ls st' h'
        | none => none)
      else (match sstep xs pc e ls st h with
        | some (pc', ls', st', h') => goN xs F call n Lr m pc' ls' st' h'
        | none => none)
def lay : List MV → List MV
  | [] => []
  | .inr (.inl z) :: vs => vL z :: vU :: lay vs
  | v :: vs => v :: lay vs
def ini (m : Nat) (as : List MV) : List MV := lay as ++ List.replicate (mxM m - (lay as).length) vU
def exec (xs : List Int) : Nat → Nat → Nat → Nat → List MV → MH → Option (Option MV × MH)
  | 0, _, _, _, _, _ => none
  | F + 1, n, Lr, m, as, h => if (lay as).length ≤ mxM m then goN xs F (exec xs F n) n Lr m 0 (ini m as) [] h else none
end
section
-- more fuel, more room: the same answer
theorem mcall_mono {F F' : Nat} {call call' : Nat → Nat → List MV → MH → Option (Option MV × MH)} {Lr Lr' : Nat} {e : EN} {st : List MV} {h : MH} {r : List MV × MH}
    (hc : ∀ (L L' a : Nat) (as : List MV) (h : MH) (r : Option MV × MH), L ≤ L' → call L a as h = some r → call' L' a as h = some r) (hF : F ≤ F') (hL : Lr ≤ Lr') (hr : mcall F call Lr e st h = some r) : mcall F' call' Lr' e st h = some r := by
  obtain ⟨I, np, a, b, c⟩ := e
  simp only [mcall] at hr ⊢
  by_cases hb : b = 5
  · simp only [hb, if_true] at hr ⊢
    split at hr
    · next r' =>
      by_cases hq : 1 ≤ F ∧ 20 ≤ Lr ∧ csum r' ≤ 8
      · rw [if_pos hq] at hr
        rw [if_pos ⟨Nat.le_trans hq.1 hF, Nat.le_trans hq.2.1 hL, hq.2.2⟩]
        exact hr
      · rw [if_neg hq] at hr; cases hr
    · cases hr
  · simp only [hb, if_false] at hr ⊢
    by_cases hq : naC b a ≤ st.length ∧ csum (st.drop (naC b a)) ≤ 8 ∧ 19 + mxM a ≤ Lr ∧ recvOK b a (st.take (naC b a)).reverse h = true
    · rw [if_pos hq] at hr
      rw [if_pos ⟨hq.1, hq.2.1, Nat.le_trans hq.2.2.1 hL, hq.2.2.2⟩]
      cases hcall : call (Lr - (19 + mxM a)) a (st.take (naC b a)).reverse h with
      | none => rw [hcall] at hr; cases hr
      | some q =>
        rw [hcall] at hr
        rw [hc _ (Lr' - (19 + mxM a)) _ _ _ _ (by omega) hcall]
        exact hr
    · rw [if_neg hq] at hr; cases hr
theorem goN_mono {xs : List Int} {F F' : Nat} {call call' : Nat → Nat → List MV → MH → Option (Option MV × MH)}
    (hc : ∀ (L L' a : Nat) (as : List MV) (h : MH) (r : Option MV × MH), L ≤ L' → call L a as h = some r → call' L' a as h = some r) (hF : F ≤ F') :
    ∀ (n n' Lr Lr' m pc : Nat) (ls st : List MV) (h : MH) (r : Option MV × MH), n ≤ n' → Lr ≤ Lr' → goN xs F call n Lr m pc ls st h = some r → goN xs F' call' n' Lr' m pc ls st h = some r := by
  intro n
  induction n with
  | zero => intro n' Lr Lr' m pc ls st h r _ _ hr; simp [goN] at hr
  | succ n ih =>
    intro n' Lr Lr' m pc ls st h r hn hL hr
    cases n' with
    | zero => omega
    | succ n' =>
      have hn' : n ≤ n' := by omega
      unfold goN at hr ⊢
      cases hco : code_ m pc with
      | none => rw [hco] at hr; cases hr
      | some e =>
        rw [hco] at hr
        dsimp only at hr ⊢
        by_cases h1 : kindI e.1 = 1
        · rw [if_pos h1] at hr ⊢; exact hr
        · rw [if_neg h1] at hr ⊢
          by_cases h2 : kindI e.1 = 2
          · rw [if_pos h2] at hr ⊢
            cases hm : mcall F call Lr e st h with
            | none => rw [hm] at hr; cases hr
            | some q =>
              rw [hm] at hr
              rw [mcall_mono hc hF hL hm]
              exact ih n' Lr Lr' m _ _ _ _ _ hn' hL hr
          · rw [if_neg h2] at hr ⊢
            cases hs : sstep xs pc e ls st h with
            | none => rw [hs] at hr; cases hr
            | some q =>
              rw [hs] at hr
              exact ih n' Lr Lr' m _ _ _ _ _ hn' hL hr
theorem exec_mono {xs : List Int} : ∀ (F F' n n' Lr Lr' m : Nat) (as : List MV) (h : MH) (r : Option MV × MH), F ≤ F' → n ≤ n' → Lr ≤ Lr' → exec xs F n Lr m as h = some r → exec xs F' n' Lr' m as h = some r := by
  intro F
  induction F with
  | zero => intro F' n n' Lr Lr' m as h r _ _ _ hr; simp [exec] at hr
  | succ F ih =>
    intro F' n n' Lr Lr' m as h r hF hn hL hr
    cases F' with
    | zero => omega
    | succ F' =>
      have hF' : F ≤ F' := by omega
      unfold exec at hr ⊢
      by_cases hq : (lay as).length ≤ mxM m
      · rw [if_pos hq] at hr ⊢
        exact goN_mono (fun L L' a as h r hL hr => ih F' n n' L L' a as h r hF' hn hL hr) hF' n n' Lr Lr' m 0 _ _ _ _ hn hL hr
      · rw [if_neg hq] at hr; cases hr
/-- the rest of a body comes to an end, with an answer -/
def Rn (xs : List Int) (m pc : Nat) (ls st : List MV) (h : MH) (r : Option MV) (h' : MH) : Prop := ∃ n, goN xs (FDp m) (exec xs (FDp m) n) n (LDp m) m pc ls st h = some (r, h')
/-- a method comes to an end, with an answer -/
def Sp (xs : List Int) (m : Nat) (as : List MV) (h : MH) (r : Option MV) (h' : MH) : Prop := ∃ n, exec xs (FDp m + 1) n (LDp m) m as h = some (r, h')
theorem sp_of {xs : List Int} {m : Nat} {as : List MV} {h : MH} {r : Option MV} {h' : MH} {ls : List MV} (hl : (lay as).length ≤ mxM m) (hi : ini m as = ls) (k : Rn xs m 0 ls [] h r h') : Sp xs m as h r h' := by
  obtain ⟨n, hn⟩ := k
  refine ⟨n, ?_⟩
  unfold exec
  rw [if_pos hl, hi]
  exact hn
section RowsOf
variable {xs : List Int} {m pc pc' np a b : Nat} {c : Int} {ls ls' st st' : List MV} {h h1 h' : MH} {r : Option MV} {e : EN}
theorem rn_s (hc : code_ m pc = some e) (hk : kindI e.1 = 0) (hs : sstep xs pc e ls st h = some (pc', ls', st', h1)) (k : Rn xs m pc' ls' st' h1 r h') : Rn xs m pc ls st h r h' := by
  obtain ⟨n, hn⟩ := k
  refine ⟨n + 1, ?_⟩
  unfold goN
  rw [hc]
  dsimp only
  rw [if_neg (by rw [hk]; decide), if_neg (by rw [hk]; decide), hs]
  exact goN_mono (fun L L' a as h r hL hr => exec_mono _ _ _ _ L L' a as h r (Nat.le_refl _) (Nat.le_succ n) hL hr) (Nat.le_refl _) n n _ _ m _ _ _ _ _ (Nat.le_refl _) (Nat.le_refl _) hn
theorem rn_e (hc : code_ m pc = some e) (hk : kindI e.1 = 1) (hs : mret m e.1 st = some r) : Rn xs m pc ls st h r h := by
  refine ⟨1, ?_⟩
  unfold goN
  rw [hc]
  dsimp only
  rw [if_pos hk, hs]
theorem rn_o {I : Instr} {x : Nat} (hc : code_ m pc = some (I, np, a, 5, c)) (hk : kindI I = 2) (hF : 1 ≤ FDp m) (hL : 20 ≤ LDp m) (hs : csum st ≤ 8) (k : Rn xs m np ls st h r h') : Rn xs m pc ls (vR x :: st) h r h' := by
  obtain ⟨n, hn⟩ := k
  refine ⟨n + 1, ?_⟩
  unfold goN
  rw [hc]
  dsimp only
  rw [if_neg (by rw [hk]; decide), if_pos hk]
  simp only [mcall, if_true]
  rw [if_pos ⟨hF, hL, hs⟩]
  exact goN_mono (fun L L' a as h r hL hr => exec_mono _ _ _ _ L L' a as h r (Nat.le_refl _) (Nat.le_succ n) hL hr) (Nat.le_refl _) n n _ _ m _ _ _ _ _ (Nat.le_refl _) (Nat.le_refl _) hn
/-- what a call asks of the two methods alone -/
def cok (m a b n : Nat) : Bool := decide (b ≠ 5) && decide (naC b a = n) && decide (FDp a + 1 ≤ FDp m) && decide (19 + mxM a + LDp a ≤ LDp m)
theorem rn_c {I : Instr} {n : Nat} {st0 as : List MV} {v : Option MV} (hc : code_ m pc = some (I, np, a, b, c)) (hk : kindI I = 2) (ho : cok m a b n = true) (hn : as.length = n) (hst : st0 = as.reverse ++ st) (hs : csum st ≤ 8) (hr : recvOK b a as h = true)
    (sp : Sp xs a as h v h1) (k : Rn xs m np ls (pushR v st) h1 r h') : Rn xs m pc ls st0 h r h' := by
  subst hst
  obtain ⟨n1, e1⟩ := sp
  obtain ⟨n2, e2⟩ := k
  simp only [cok, Bool.and_eq_true, decide_eq_true_eq] at ho
  obtain ⟨⟨⟨o1, o2⟩, o3⟩, o4⟩ := ho
  refine ⟨n1 + n2 + 1, ?_⟩
  unfold goN
  rw [hc]
  dsimp only
  rw [if_neg (by rw [hk]; decide), if_pos hk]
  have hl : as.reverse.length = naC b a := by rw [List.length_reverse, hn, o2]
  have t1 : (as.reverse ++ st).take (naC b a) = as.reverse := by rw [← hl]; exact List.take_left
  have t2 : (as.reverse ++ st).drop (naC b a) = st := by rw [← hl]; exact List.drop_left
  simp only [mcall]
  rw [if_neg o1, t1, t2, List.reverse_reverse]
  rw [if_pos ⟨by rw [List.length_append, hl]; omega, hs, by omega, hr⟩]
  rw [exec_mono _ _ _ (n1 + n2 + 1) _ (LDp m - (19 + mxM a)) a as h _ o3 (by omega) (by omega) e1]
  exact goN_mono (fun L L' a as h r hL hr => exec_mono _ _ _ _ L L' a as h r (Nat.le_refl _) (by omega) hL hr) (Nat.le_refl _) n2 _ _ _ m _ _ _ _ _ (by omega) (Nat.le_refl _) e2
end RowsOf
end
section
-- whole numbers and the machine's
theorem n_ofTo (x : Int32) : Int32.ofInt x.toInt = x := by first | exact Int32.ofInt_toInt x | simp
theorem n_ofToL (x : Int64) : Int64.ofInt x.toInt = x := by first | exact Int64.ofInt_toInt x | simp
theorem n_toOf {z : Int} (h : inR z) : (Int32.ofInt z).toInt = z := by
  have h1 := h.1
  have h2 := h.2
  rw [Int32.toInt_ofInt]
  exact Int.bmod_eq_of_le (by show -((Int32.size : Int) / 2) ≤ z; simp [Int32.size]; omega) (by show z < ((Int32.size : Int) + 1) / 2; simp [Int32.size]; omega)
theorem n_toOfL {z : Int} (h : inL z) : (Int64.ofInt z).toInt = z := by
  have h1 := h.1
  have h2 := h.2
  rw [Int64.toInt_ofInt]
  exact Int.bmod_eq_of_le (by show -((Int64.size : Int) / 2) ≤ z; simp [Int64.size]; omega) (by show z < ((Int64.size : Int) + 1) / 2; simp [Int64.size]; omega)
theorem n_add (x y : Int) : Int32.ofInt (x + y) = Int32.ofInt x + Int32.ofInt y := by first | exact Int32.ofInt_add x y | exact Int32.ofInt_add .. | simp
theorem n_sub (x y : Int) : Int32.ofInt (x - y) = Int32.ofInt x - Int32.ofInt y := by first | exact Int32.ofInt_sub x y | exact Int32.ofInt_sub .. | simp
theorem n_mul (x y : Int) : Int32.ofInt (x * y) = Int32.ofInt x * Int32.ofInt y := by first | exact Int32.ofInt_mul x y | exact Int32.ofInt_mul .. | simp
theorem n_neg (x : Int) : Int32.ofInt (-x) = -Int32.ofInt x := by first | exact Int32.ofInt_neg x | exact Int32.ofInt_neg .. | simp
theorem n_addL (x y : Int) : Int64.ofInt (x + y) = Int64.ofInt x + Int64.ofInt y := by first | exact Int64.ofInt_add x y | exact Int64.ofInt_add .. | simp
theorem n_subL (x y : Int) : Int64.ofInt (x - y) = Int64.ofInt x - Int64.ofInt y := by first | exact Int64.ofInt_sub x y | exact Int64.ofInt_sub .. | simp
theorem n_mulL (x y : Int) : Int64.ofInt (x * y) = Int64.ofInt x * Int64.ofInt y := by first | exact Int64.ofInt_mul x y | exact Int64.ofInt_mul .. | simp
theorem n_negL (x : Int) : Int64.ofInt (-x) = -Int64.ofInt x := by first | exact Int64.ofInt_neg x | exact Int64.ofInt_neg .. | simp
theorem n_div {x y : Int} (hx : inR x) (hy : inR y) : Int32.ofInt (x.tdiv y) = Int32.ofInt x / Int32.ofInt y := by
  apply Int32.toInt_inj.mp
  rw [Int32.toInt_div, n_toOf hx, n_toOf hy, Int32.toInt_ofInt]
theorem n_divL {x y : Int} (hx : inL x) (hy : inL y) : Int64.ofInt (x.tdiv y) = Int64.ofInt x / Int64.ofInt y := by
  apply Int64.toInt_inj.mp
  rw [Int64.toInt_div, n_toOfL hx, n_toOfL hy, Int64.toInt_ofInt]
theorem n_mod {x y : Int} (hx : inR x) (hy : inR y) : Int32.ofInt (x.tmod y) = Int32.ofInt x - Int32.ofInt x / Int32.ofInt y * Int32.ofInt y := by
  rw [← n_div hx hy, ← n_mul, ← n_sub]
  congr 1
  have h := Int.mul_tdiv_add_tmod x y
  rw [Int.mul_comm] at h
  omega
theorem n_modL {x y : Int} (hx : inL x) (hy : inL y) : Int64.ofInt (x.tmod y) = Int64.ofInt x - Int64.ofInt x / Int64.ofInt y * Int64.ofInt y := by
  rw [← n_divL hx hy, ← n_mulL, ← n_subL]
  congr 1
  have h := Int.mul_tdiv_add_tmod x y
  rw [Int.mul_comm] at h
  omega
theorem n_lt {x y : Int} (hx : inR x) (hy : inR y) : Int32.ofInt x < Int32.ofInt y ↔ x < y := by rw [Int32.lt_iff_toInt_lt, n_toOf hx, n_toOf hy]
theorem n_le {x y : Int} (hx : inR x) (hy : inR y) : Int32.ofInt x ≤ Int32.ofInt y ↔ x ≤ y := by rw [Int32.le_iff_toInt_le, n_toOf hx, n_toOf hy]
theorem n_eq {x y : Int} (hx : inR x) (hy : inR y) : Int32.ofInt x = Int32.ofInt y ↔ x = y := by
  constructor
  · intro h
    have e := congrArg Int32.toInt h
    rwa [n_toOf hx, n_toOf hy] at e
  · intro h; rw [h]
theorem n_eqL {x y : Int} (hx : inL x) (hy : inL y) : Int64.ofInt x = Int64.ofInt y ↔ x = y := by
  constructor
  · intro h
    have e := congrArg Int64.toInt h
    rwa [n_toOfL hx, n_toOfL hy] at e
  · intro h; rw [h]
theorem n_ltL {x y : Int} (hx : inL x) (hy : inL y) : Int64.ofInt x < Int64.ofInt y ↔ x < y := by rw [Int64.lt_iff_toInt_lt, n_toOfL hx, n_toOfL hy]
theorem n_i2l {x : Int} (hx : inR x) : (Int32.ofInt x).toInt64 = Int64.ofInt x := by
  apply Int64.toInt_inj.mp
  rw [Int32.toInt_toInt64, n_toOf hx, n_toOfL]
  have h1 := hx.1
  have h2 := hx.2
  constructor <;> omega
theorem n_0 : (0 : Int32) = Int32.ofInt 0 := by decide
theorem n_nz {y : Int} (hy : inR y) (h : y ≠ 0) : ¬ Int32.ofInt y = 0 := by
  rw [n_0, n_eq hy (by constructor <;> decide)]
  exact h
theorem n_0L : (0 : Int64) = Int64.ofInt 0 := by decide
theorem n_nzL {y : Int} (hy : inL y) (h : y ≠ 0) : ¬ Int64.ofInt y = 0 := by
  rw [n_0L, n_eqL hy (by constructor <;> decide)]
  exact h
theorem n_byte : ∀ n : Int, -128 ≤ n ∧ n ≤ 127 → (Int8.ofInt n).toInt32 = Int32.ofInt n := by
  intro n h
  have key : ∀ k : Nat, k < 256 → (Int8.ofInt ((k : Int) - 128)).toInt32 = Int32.ofInt ((k : Int) - 128) := by decide +kernel
  have h1 := key (n + 128).toNat (by omega)
  rw [show (((n + 128).toNat : Nat) : Int) - 128 = n by omega] at h1
  exact h1
theorem n_short : ∀ n : Int, -32768 ≤ n ∧ n ≤ 32767 → (Int16.ofInt n).toInt32 = Int32.ofInt n := by
  intro n h
  apply Int32.toInt_inj.mp
  rw [Int16.toInt_toInt32, n_toOf (by constructor <;> omega), Int16.toInt_ofInt]
  exact Int.bmod_eq_of_le (by show -((Int16.size : Int) / 2) ≤ n; simp [Int16.size]; omega) (by show n < ((Int16.size : Int) + 1) / 2; simp [Int16.size]; omega)
theorem n_nat (k : Nat) : Int32.ofInt (k : Int) = Int32.ofNat k := by
  first
    | rfl
    | exact Int32.ofInt_ofNat k
    | exact (Int32.ofInt_natCast k)
    | simp
theorem n_cl {j : Int} (h0 : 0 ≤ j) (h1 : j ≤ 2147483647) : (Int32.ofInt j).toNatClampNeg = j.toNat := by
  obtain ⟨k, rfl⟩ := Int.eq_ofNat_of_zero_le h0
  rw [n_nat]
  exact Int32.toNatClampNeg_ofNat_of_lt (by omega)
theorem n_in {j : Int} {n : Nat} (h0 : 0 ≤ j) (h1 : j ≤ 2147483647) (hn : j < n) : vp_in (Int32.ofInt j) n := by
  intro h
  rcases h with h | h
  · rw [n_0, n_lt ⟨by omega, h1⟩ (by constructor <;> decide)] at h
    omega
  · rw [n_cl h0 h1] at h
    omega
theorem n_neg0 {n : Int} (h0 : 0 ≤ n) (h1 : n ≤ 2147483647) : ¬ Int32.ofInt n < 0 := by
  rw [n_0, n_lt ⟨by omega, h1⟩ (by constructor <;> decide)]
  omega
theorem n_lcm {x y : Int} (hx : inL x) (hy : inL y) : Int32.ofInt (lcm x y) = lg_cmp (Int64.ofInt x) (Int64.ofInt y) := by
  unfold lcm lg_cmp
  by_cases h1 : y < x
  · rw [if_pos h1, if_pos ((n_ltL hy hx).mpr h1)]; rfl
  · rw [if_neg h1, if_neg (fun q => h1 ((n_ltL hy hx).mp q))]
    by_cases h2 : x = y
    · rw [if_pos h2, if_pos ((n_eqL hx hy).mpr h2)]; rfl
    · rw [if_neg h2, if_neg (fun q => h2 ((n_eqL hx hy).mp q))]; decide
end
section
-- the words that the system needs, and where they stand in the Statement's tables
def cnm (o : Nat) : String := (CN[o]?).getD ""
def fwC (o ix a b : Nat) : Jvm.Cond := match CL[a]? with
  | some (_, T, _) => .fieldLink (cnm o) ix (T b).1 (T b).2.1 (T b).2.2.1
  | none => .initialized ""
def kwC (q : Nat × Nat × Nat × Nat) : List Jvm.Cond := (if q.2.2.1 = 0 ∨ q.2.2.1 = 1 ∨ q.2.2.1 = 2 then [.methodLink (cnm q.1) q.2.1 (yM q.2.2.2)] else []) ++ ((if q.2.2.1 = 0 ∨ q.2.2.1 = 3 then [.static (yM q.2.2.2)] else []) ++ ((if q.2.2.1 = 1 ∨ q.2.2.1 = 2 ∨ q.2.2.1 = 4 then [.instanceMethod (yM q.2.2.2)] else []) ++ (if q.2.2.1 = 1 then [.selects (yM q.2.2.2).cls (yM q.2.2.2) (yM q.2.2.2)] else [])))
def cdC (i : MIt) : Jvm.Cond := .code i.2.1 i.2.2.1 i.2.2.2.1 i.2.2.2.2.1
def nwC (q : Nat × Nat × Nat) : List Jvm.Cond := [.classLink (cnm q.1) q.2.1 (cnm q.2.2), .instantiable (cnm q.2.2) (nfC q.2.2)]
def SOW : String := "FourRods$Rods"
def swC (q : Nat × Nat × Nat) : Jvm.Cond := .fieldLink (cnm q.1) q.2.1 SOW ((SNm[q.2.2]?).getD "") "[I"
def A_code : List Jvm.Cond := MIc.map cdC
def A_init : List Jvm.Cond := CN.map Jvm.Cond.initialized
def A_fld : List Jvm.Cond := FT.map (fun q => fwC q.1 q.2.1 q.2.2.1 q.2.2.2)
def A_lay : List Jvm.Cond := CL.flatMap (fun q => u_ws q.1 q.2.1 q.2.2)
def A_call : List Jvm.Cond := KT.flatMap kwC
def A_new : List Jvm.Cond := NT.flatMap nwC
def A_con : List Jvm.Cond := CT.map (fun q => .constant (cnm q.1) q.2.1 (Int32.ofInt q.2.2))
def A_conL : List Jvm.Cond := LT.map (fun q => .constantLong (cnm q.1) q.2.1 (Int64.ofInt q.2.2))
def A_sta : List Jvm.Cond := ST.map swC
def A_arr : List Jvm.Cond := [.arrayClass .int, .arrayClass .long, .arrayClass .boolean]
def A_obj : List Jvm.Cond := OT.map (fun q => .methodLink (cnm q.1) q.2 Lib.objectInit)
def A_obj2 : List Jvm.Cond := [.instanceMethod Lib.objectInit, .code Lib.objectInit ⟨#[0xb1]⟩ 1 none]
theorem in_of (ws : List Jvm.Cond) (ps : List Nat) (h : ws = ps.filterMap (fun i => lw_tbl[i]?)) : ∀ w ∈ ws, w ∈ lw_tbl := by
  intro w hw
  rw [h] at hw
  obtain ⟨i, -, hi⟩ := List.mem_filterMap.mp hw
  exact List.mem_of_getElem? hi
def AL2 : List Jvm.Cond := A_init ++ (A_fld ++ (A_lay ++ (A_call ++ (A_new ++ (A_con ++ (A_conL ++ (A_sta ++ (A_arr ++ (A_obj ++ A_obj2)))))))))
def ALL : List Jvm.Cond := A_code ++ AL2
theorem al_0 : ∀ w ∈ (AL2.drop 0).take 25, w ∈ lw_tbl := in_of _ [48, 46, 50, 45, 47, 49, 43, 42, 51, 54, 55, 44, 41, 53, 52, 170, 171, 172, 173, 136, 137, 138, 139, 140, 215] (by decide +kernel)
theorem al_1 : ∀ w ∈ (AL2.drop 25).take 25, w ∈ lw_tbl := in_of _ [216, 217, 109, 110, 111, 112, 113, 114, 158, 189, 190, 191, 192, 193, 83, 84, 86, 87, 85, 88, 225, 226, 227, 228, 229] (by decide +kernel)
theorem al_2 : ∀ w ∈ (AL2.drop 50).take 25, w ∈ lw_tbl := in_of _ [230, 231, 232, 233, 851, 852, 854, 856, 863, 864, 865, 866, 867, 868, 855, 857, 858, 859, 862, 861, 860, 853, 174, 176, 178] (by decide +kernel)
theorem al_3 : ∀ w ∈ (AL2.drop 75).take 25, w ∈ lw_tbl := in_of _ [180, 141, 143, 145, 147, 149, 218, 220, 222, 115, 117, 119, 121, 123, 125, 159, 194, 196, 198, 200, 202, 89, 91, 93, 95] (by decide +kernel)
theorem al_4 : ∀ w ∈ (AL2.drop 100).take 25, w ∈ lw_tbl := in_of _ [97, 99, 234, 236, 238, 240, 242, 244, 246, 248, 250, 869, 871, 873, 875, 877, 879, 881, 883, 885, 887, 889, 891, 893, 895] (by decide +kernel)
theorem al_5 : ∀ w ∈ (AL2.drop 125).take 25, w ∈ lw_tbl := in_of _ [897, 899, 901, 903, 678, 679, 666, 667, 669, 670, 672, 673, 675, 676, 709, 710, 169, 67, 612, 401, 402, 613, 542, 543, 614] (by decide +kernel)
theorem al_6 : ∀ w ∈ (AL2.drop 150).take 25, w ∈ lw_tbl := in_of _ [277, 615, 500, 616, 617, 619, 621, 12, 635, 71, 636, 269, 270, 631, 632, 633, 637, 639, 13, 623, 624, 625, 629, 487, 630] (by decide +kernel)
theorem al_7 : ∀ w ∈ (AL2.drop 175).take 25, w ∈ lw_tbl := in_of _ [453, 641, 642, 135, 67, 400, 401, 402, 407, 355, 356, 408, 359, 360, 409, 363, 364, 410, 411, 412, 414, 415, 416, 418, 419] (by decide +kernel)
theorem al_8 : ∀ w ∈ (AL2.drop 200).take 25, w ∈ lw_tbl := in_of _ [420, 422, 423, 424, 471, 472, 473, 475, 476, 477, 692, 693, 695, 642, 696, 697, 699, 700, 212, 67, 186, 803, 401, 402, 804] (by decide +kernel)
theorem al_9 : ∀ w ∈ (AL2.drop 225).take 25, w ∈ lw_tbl := in_of _ [805, 806, 354, 355, 356, 358, 359, 360, 362, 363, 364, 366, 368, 0, 374, 376, 2, 379, 381, 3, 384, 386, 4, 388, 390] (by decide +kernel)
theorem al_10 : ∀ w ∈ (AL2.drop 250).take 25, w ∈ lw_tbl := in_of _ [5, 370, 372, 1, 383, 258, 262, 582, 584, 11, 586, 587, 595, 596, 597, 589, 305, 590, 449, 450, 591, 592, 594, 277, 73] (by decide +kernel)
theorem al_11 : ∀ w ∈ (AL2.drop 275).take 25, w ∈ lw_tbl := in_of _ [74, 78, 79, 455, 258, 456, 277, 405, 748, 749, 751, 753, 14, 770, 771, 772, 755, 756, 774, 673, 70, 71, 405, 426, 319] (by decide +kernel)
theorem al_12 : ∀ w ∈ (AL2.drop 300).take 25, w ∈ lw_tbl := in_of _ [320, 285, 258, 290, 277, 291, 282, 283, 430, 431, 432, 457, 458, 459, 439, 265, 266, 461, 79, 466, 74, 445, 446, 452, 453] (by decide +kernel)
theorem al_13 : ∀ w ∈ (AL2.drop 325).take 25, w ∈ lw_tbl := in_of _ [462, 463, 464, 467, 468, 469, 486, 487, 489, 490, 495, 497, 8, 499, 500, 627, 550, 551, 572, 492, 493, 427, 428, 434, 436] (by decide +kernel)
theorem al_14 : ∀ w ∈ (AL2.drop 350).take 25, w ∈ lw_tbl := in_of _ [6, 438, 287, 288, 440, 305, 441, 443, 7, 448, 449, 450, 479, 293, 294, 480, 269, 270, 481, 308, 309, 482, 483, 484, 502] (by decide +kernel)
theorem al_15 : ∀ w ∈ (AL2.drop 375).take 25, w ∈ lw_tbl := in_of _ [504, 9, 506, 323, 324, 507, 301, 302, 785, 786, 788, 423, 424, 789, 476, 477, 66, 67, 106, 131, 155, 165, 186, 208, 257] (by decide +kernel)
theorem al_16 : ∀ w ∈ (AL2.drop 400).take 25, w ∈ lw_tbl := in_of _ [258, 260, 71, 261, 262, 264, 265, 266, 268, 269, 270, 276, 277, 281, 282, 283, 286, 287, 288, 292, 293, 294, 300, 301, 302] (by decide +kernel)
theorem al_17 : ∀ w ∈ (AL2.drop 425).take 25, w ∈ lw_tbl := in_of _ [304, 305, 307, 308, 309, 315, 316, 318, 319, 320, 322, 323, 324, 330, 331, 332, 334, 335, 336, 342, 343, 344, 350, 351, 352] (by decide +kernel)
theorem al_18 : ∀ w ∈ (AL2.drop 450).take 25, w ∈ lw_tbl := in_of _ [396, 397, 398, 508, 509, 510, 512, 513, 514, 520, 522, 10, 524, 525, 526, 528, 401, 402, 529, 530, 531, 541, 542, 543, 545] (by decide +kernel)
theorem al_19 : ∀ w ∈ (AL2.drop 475).take 25, w ∈ lw_tbl := in_of _ [546, 547, 549, 550, 551, 553, 554, 555, 557, 558, 559, 565, 431, 432, 566, 483, 484, 571, 572, 578, 579, 580, 599, 596, 597] (by decide +kernel)
theorem al_20 : ∀ w ∈ (AL2.drop 500).take 25, w ∈ lw_tbl := in_of _ [600, 601, 602, 608, 609, 610, 647, 648, 649, 651, 652, 653, 659, 660, 663, 664, 686, 687, 689, 690, 706, 707, 717, 718, 724] (by decide +kernel)
theorem al_21 : ∀ w ∈ (AL2.drop 525).take 25, w ∈ lw_tbl := in_of _ [725, 726, 728, 729, 730, 736, 737, 738, 744, 745, 746, 758, 759, 760, 766, 767, 768, 775, 771, 772, 781, 782, 783, 790, 472] (by decide +kernel)
theorem al_22 : ∀ w ∈ (AL2.drop 550).take 25, w ∈ lw_tbl := in_of _ [473, 795, 797, 15, 799, 800, 801, 813, 814, 815, 821, 822, 823, 825, 827, 16, 829, 458, 459, 836, 837, 915, 916, 845, 846] (by decide +kernel)
theorem al_23 : ∀ w ∈ (AL2.drop 575).take 25, w ∈ lw_tbl := in_of _ [842, 843, 839, 840, 848, 849, 912, 913, 922, 924, 17, 926, 928, 18, 934, 935, 957, 958, 953, 955, 19, 996, 998, 28, 1000] (by decide +kernel)
theorem al_24 : ∀ w ∈ (AL2.drop 600).take 25, w ∈ lw_tbl := in_of _ [1002, 29, 976, 978, 23, 984, 986, 25, 992, 994, 27, 1008, 1010, 31, 1020, 1022, 34, 1024, 1026, 35, 1028, 1030, 36, 972, 974] (by decide +kernel)
theorem al_25 : ∀ w ∈ (AL2.drop 625).take 25, w ∈ lw_tbl := in_of _ [22, 980, 982, 24, 988, 990, 26, 1004, 1006, 30, 1012, 1014, 32, 1016, 1018, 33, 968, 970, 21, 964, 966, 20, 1036, 1038, 37] (by decide +kernel)
theorem al_26 : ∀ w ∈ (AL2.drop 650).take 25, w ∈ lw_tbl := in_of _ [1056, 1058, 38, 1065, 1067, 39, 1073, 1074, 1082, 1083, 1093, 1094, 1117, 1118, 1113, 1115, 40, 58, 59, 832, 833, 253, 254, 255, 908] (by decide +kernel)
theorem al_27 : ∀ w ∈ (AL2.drop 675).take 25, w ∈ lw_tbl := in_of _ [909, 910, 272, 273, 274, 918, 919, 920, 296, 297, 298, 930, 931, 932, 311, 312, 313, 937, 938, 939, 326, 327, 328, 941, 942] (by decide +kernel)
theorem al_28 : ∀ w ∈ (AL2.drop 700).take 25, w ∈ lw_tbl := in_of _ [943, 338, 339, 340, 945, 946, 947, 346, 347, 348, 949, 950, 951, 392, 393, 394, 960, 961, 962, 516, 517, 518, 1032, 1033, 1034] (by decide +kernel)
theorem al_29 : ∀ w ∈ (AL2.drop 725).take 25, w ∈ lw_tbl := in_of _ [533, 534, 535, 1040, 1041, 1042, 537, 538, 539, 1044, 1045, 1046, 561, 562, 563, 1048, 1049, 1050, 567, 568, 569, 1052, 1053, 1054, 574] (by decide +kernel)
theorem al_30 : ∀ w ∈ (AL2.drop 750).take 25, w ∈ lw_tbl := in_of _ [575, 576, 1060, 1061, 1062, 604, 605, 606, 1069, 1070, 1071, 655, 656, 657, 1076, 1077, 1078, 682, 683, 684, 1085, 1086, 1087, 702, 703] (by decide +kernel)
theorem al_31 : ∀ w ∈ (AL2.drop 775).take 25, w ∈ lw_tbl := in_of _ [704, 1089, 1090, 1091, 712, 713, 714, 1096, 1097, 1098, 720, 721, 722, 1101, 1102, 1103, 732, 733, 734, 1105, 1106, 1107, 740, 741, 742] (by decide +kernel)
theorem al_32 : ∀ w ∈ (AL2.drop 800).take 25, w ∈ lw_tbl := in_of _ [1109, 1110, 1111, 762, 763, 764, 1120, 1121, 1122, 776, 777, 778, 1124, 1125, 1126, 791, 792, 793, 1129, 1130, 1131, 809, 810, 811, 1133] (by decide +kernel)
theorem al_33 : ∀ w ∈ (AL2.drop 825).take 25, w ∈ lw_tbl := in_of _ [1134, 1135, 817, 818, 819, 1137, 1138, 1139, 168, 65, 134, 65, 211, 65, 213, 184, 64, 65, 103, 104, 128, 129, 152, 153, 162] (by decide +kernel)
theorem al_34 : ∀ w ∈ (AL2.drop 850).take 25, w ∈ lw_tbl := in_of _ [163, 183, 184, 205, 206, 56, 57, 830, 831, 780, 1064, 1128, 644, 645, 646, 681, 662, 716, 1080, 1081, 1100, 279, 76, 81, 102] (by decide +kernel)
theorem al_35 : ∀ w ∈ (AL2.drop 875).take 25, w ∈ lw_tbl := in_of _ [906, 907, 167, 133, 210, 108, 157, 188, 69, 61, 835, 62, 63] (by decide +kernel)
theorem al_len : AL2.length = 888 := by decide +kernel
theorem al_all (k : Nat) (hk : k < 36) : ∀ w ∈ (AL2.drop (25 * k)).take 25, w ∈ lw_tbl := by
  match k, hk with
  | 0, _ => exact al_0
  | 1, _ => exact al_1
  | 2, _ => exact al_2
  | 3, _ => exact al_3
  | 4, _ => exact al_4
  | 5, _ => exact al_5
  | 6, _ => exact al_6
  | 7, _ => exact al_7
  | 8, _ => exact al_8
  | 9, _ => exact al_9
  | 10, _ => exact al_10
  | 11, _ => exact al_11
  | 12, _ => exact al_12
  | 13, _ => exact al_13
  | 14, _ => exact al_14
  | 15, _ => exact al_15
  | 16, _ => exact al_16
  | 17, _ => exact al_17
  | 18, _ => exact al_18
  | 19, _ => exact al_19
  | 20, _ => exact al_20
  | 21, _ => exact al_21
  | 22, _ => exact al_22
  | 23, _ => exact al_23
  | 24, _ => exact al_24
  | 25, _ => exact al_25
  | 26, _ => exact al_26
  | 27, _ => exact al_27
  | 28, _ => exact al_28
  | 29, _ => exact al_29
  | 30, _ => exact al_30
  | 31, _ => exact al_31
  | 32, _ => exact al_32
  | 33, _ => exact al_33
  | 34, _ => exact al_34
  | 35, _ => exact al_35
  | n + 36, h => exact absurd h (by omega)
theorem AL2_in : ∀ w ∈ AL2, w ∈ lw_tbl := by
  intro w h
  obtain ⟨i, hi⟩ := List.getElem?_of_mem h
  have hl : i < AL2.length := (List.getElem?_eq_some_iff.mp hi).1
  rw [al_len] at hl
  refine al_all (i / 25) (by omega) w (List.mem_of_getElem? (i := i % 25) ?_)
  rw [List.getElem?_take_of_lt (by omega), List.getElem?_drop, show 25 * (i / 25) + i % 25 = i by omega]
  exact hi
theorem tbl_1 (w : Jvm.Cond) (h : w ∈ tables_1_1) : w ∈ lw_tbl := List.mem_append_right _ (by unfold tables_1; exact List.mem_append_left _ h)
theorem tbl_2 (w : Jvm.Cond) (h : w ∈ tables_1_2) : w ∈ lw_tbl := List.mem_append_right _ (by unfold tables_1; exact List.mem_append_right _ (List.mem_append_left _ h))
theorem tbl_3 (w : Jvm.Cond) (h : w ∈ tables_1_3) : w ∈ lw_tbl := List.mem_append_right _ (by unfold tables_1; exact List.mem_append_right _ (List.mem_append_right _ (List.mem_append_left _ h)))
theorem tbl_4 (w : Jvm.Cond) (h : w ∈ tables_1_4) : w ∈ lw_tbl := List.mem_append_right _ (by unfold tables_1; exact List.mem_append_right _ (List.mem_append_right _ (List.mem_append_right _ (List.mem_append_left _ h))))
theorem tbl_5 (w : Jvm.Cond) (h : w ∈ tables_1_5) : w ∈ lw_tbl := List.mem_append_right _ (by unfold tables_1; exact List.mem_append_right _ (List.mem_append_right _ (List.mem_append_right _ (List.mem_append_right _ (h)))))
theorem cw_0 : cdC mi_Chances_part ∈ lw_tbl := tbl_3 _ (List.mem_of_getElem? (i := 156) rfl)
theorem cw_1 : cdC mi_Chances_commonDivisor ∈ lw_tbl := tbl_3 _ (List.mem_of_getElem? (i := 159) rfl)
theorem cw_2 : cdC mi_Chances_mixed ∈ lw_tbl := tbl_3 _ (List.mem_of_getElem? (i := 144) rfl)
theorem cw_3 : cdC mi_Chances_mixedInOrder ∈ lw_tbl := tbl_3 _ (List.mem_of_getElem? (i := 147) rfl)
theorem cw_4 : cdC mi_Chances_isTheFirst ∈ lw_tbl := tbl_3 _ (List.mem_of_getElem? (i := 187) rfl)
theorem cw_5 : cdC mi_Chances_winsRace ∈ lw_tbl := tbl_3 _ (List.mem_of_getElem? (i := 198) rfl)
theorem cw_6 : cdC mi_Chances_power ∈ lw_tbl := tbl_3 _ (List.mem_of_getElem? (i := 190) rfl)
theorem cw_7 : cdC mi_Defence_init ∈ lw_tbl := tbl_1 _ (List.mem_of_getElem? (i := 125) rfl)
theorem cw_8 : cdC mi_Defence_letIn ∈ lw_tbl := tbl_3 _ (List.mem_of_getElem? (i := 129) rfl)
theorem cw_9 : cdC mi_Defence_slides ∈ lw_tbl := tbl_3 _ (List.mem_of_getElem? (i := 133) rfl)
theorem cw_10 : cdC mi_Defence_place ∈ lw_tbl := tbl_3 _ (List.mem_of_getElem? (i := 90) rfl)
theorem cw_11 : cdC mi_Defence_shotsPastOthers ∈ lw_tbl := tbl_3 _ (List.mem_of_getElem? (i := 101) rfl)
theorem cw_12 : cdC mi_Defence_tryKeeper ∈ lw_tbl := tbl_3 _ (List.mem_of_getElem? (i := 119) rfl)
theorem cw_13 : cdC mi_Evening_init ∈ lw_tbl := tbl_1 _ (List.mem_of_getElem? (i := 91) rfl)
theorem cw_14 : cdC mi_Evening_table ∈ lw_tbl := tbl_3 _ (List.mem_of_getElem? (i := 6) rfl)
theorem cw_15 : cdC mi_Evening_acts ∈ lw_tbl := tbl_3 _ (List.mem_of_getElem? (i := 11) rfl)
theorem cw_16 : cdC mi_Evening_stoppedAt ∈ lw_tbl := tbl_2 _ (List.mem_of_getElem? (i := 230) rfl)
theorem cw_17 : cdC mi_Evening_reason ∈ lw_tbl := tbl_2 _ (List.mem_of_getElem? (i := 234) rfl)
theorem cw_18 : cdC mi_Evening_firstGoal ∈ lw_tbl := tbl_3 _ (List.mem_of_getElem? (i := 39) rfl)
theorem cw_19 : cdC mi_Evening_play ∈ lw_tbl := tbl_2 _ (List.mem_of_getElem? (i := 118) rfl)
theorem cw_20 : cdC mi_Grasps_isRow ∈ lw_tbl := tbl_3 _ (List.mem_of_getElem? (i := 167) rfl)
theorem cw_21 : cdC mi_Grasps_fewest ∈ lw_tbl := tbl_3 _ (List.mem_of_getElem? (i := 170) rfl)
theorem cw_22 : cdC mi_Grasps_needed ∈ lw_tbl := tbl_3 _ (List.mem_of_getElem? (i := 173) rfl)
theorem cw_23 : cdC mi_Grasps_latest ∈ lw_tbl := tbl_3 _ (List.mem_of_getElem? (i := 177) rfl)
theorem cw_24 : cdC mi_Grasps_nextNeed ∈ lw_tbl := tbl_3 _ (List.mem_of_getElem? (i := 180) rfl)
theorem cw_25 : cdC mi_Image_init ∈ lw_tbl := tbl_1 _ (List.mem_of_getElem? (i := 168) rfl)
theorem cw_26 : cdC mi_Image_keep ∈ lw_tbl := tbl_4 _ (List.mem_of_getElem? (i := 41) rfl)
theorem cw_27 : cdC mi_Image_giveBack ∈ lw_tbl := tbl_4 _ (List.mem_of_getElem? (i := 55) rfl)
theorem cw_28 : cdC mi_Pad_init ∈ lw_tbl := tbl_1 _ (List.mem_of_getElem? (i := 66) rfl)
theorem cw_29 : cdC mi_Pad_size ∈ lw_tbl := tbl_2 _ (List.mem_of_getElem? (i := 56) rfl)
theorem cw_30 : cdC mi_Pad_add ∈ lw_tbl := tbl_2 _ (List.mem_of_getElem? (i := 52) rfl)
theorem cw_31 : cdC mi_Pad_clear ∈ lw_tbl := tbl_2 _ (List.mem_of_getElem? (i := 64) rfl)
theorem cw_32 : cdC mi_Pad_rewind ∈ lw_tbl := tbl_2 _ (List.mem_of_getElem? (i := 76) rfl)
theorem cw_33 : cdC mi_Pad_isReadOut ∈ lw_tbl := tbl_2 _ (List.mem_of_getElem? (i := 80) rfl)
theorem cw_34 : cdC mi_Pad_kind ∈ lw_tbl := tbl_2 _ (List.mem_of_getElem? (i := 132) rfl)
theorem cw_35 : cdC mi_Pad_rod ∈ lw_tbl := tbl_2 _ (List.mem_of_getElem? (i := 136) rfl)
theorem cw_36 : cdC mi_Pad_number ∈ lw_tbl := tbl_2 _ (List.mem_of_getElem? (i := 140) rfl)
theorem cw_37 : cdC mi_Pad_faultPlace ∈ lw_tbl := tbl_2 _ (List.mem_of_getElem? (i := 72) rfl)
theorem cw_38 : cdC mi_Pad_readAct ∈ lw_tbl := tbl_2 _ (List.mem_of_getElem? (i := 84) rfl)
theorem cw_39 : cdC mi_Pad_takesHandling ∈ lw_tbl := tbl_2 _ (List.mem_of_getElem? (i := 110) rfl)
theorem cw_40 : cdC mi_Pad_takesWay ∈ lw_tbl := tbl_2 _ (List.mem_of_getElem? (i := 106) rfl)
theorem cw_41 : cdC mi_Pad_takes ∈ lw_tbl := tbl_2 _ (List.mem_of_getElem? (i := 88) rfl)
theorem cw_42 : cdC mi_Pad_takesRod ∈ lw_tbl := tbl_2 _ (List.mem_of_getElem? (i := 101) rfl)
theorem cw_43 : cdC mi_Pad_takesDigit ∈ lw_tbl := tbl_2 _ (List.mem_of_getElem? (i := 96) rfl)
theorem cw_44 : cdC mi_Pad_nextSign ∈ lw_tbl := tbl_2 _ (List.mem_of_getElem? (i := 92) rfl)
theorem cw_45 : cdC mi_Passes_init ∈ lw_tbl := tbl_1 _ (List.mem_of_getElem? (i := 115) rfl)
theorem cw_46 : cdC mi_Passes_from ∈ lw_tbl := tbl_3 _ (List.mem_of_getElem? (i := 77) rfl)
theorem cw_47 : cdC mi_Passes_countTo ∈ lw_tbl := tbl_3 _ (List.mem_of_getElem? (i := 60) rfl)
theorem cw_48 : cdC mi_Passes_leads ∈ lw_tbl := tbl_3 _ (List.mem_of_getElem? (i := 64) rfl)
theorem cw_49 : cdC mi_Passes_firstFrom ∈ lw_tbl := tbl_3 _ (List.mem_of_getElem? (i := 82) rfl)
theorem cw_50 : cdC mi_Passes_receiver ∈ lw_tbl := tbl_3 _ (List.mem_of_getElem? (i := 67) rfl)
theorem cw_51 : cdC mi_Passes_ownOnly ∈ lw_tbl := tbl_3 _ (List.mem_of_getElem? (i := 72) rfl)
theorem cw_52 : cdC mi_Rods_isRod ∈ lw_tbl := tbl_1 _ (List.mem_of_getElem? (i := 218) rfl)
theorem cw_53 : cdC mi_Rods_isMan ∈ lw_tbl := tbl_2 _ (List.mem_of_getElem? (i := 25) rfl)
theorem cw_54 : cdC mi_Rods_sideOf ∈ lw_tbl := tbl_1 _ (List.mem_of_getElem? (i := 237) rfl)
theorem cw_55 : cdC mi_Rods_menOf ∈ lw_tbl := tbl_1 _ (List.mem_of_getElem? (i := 34) rfl)
theorem cw_56 : cdC mi_Rods_gapOf ∈ lw_tbl := tbl_1 _ (List.mem_of_getElem? (i := 39) rfl)
theorem cw_57 : cdC mi_Rods_lastSlide ∈ lw_tbl := tbl_1 _ (List.mem_of_getElem? (i := 31) rfl)
theorem cw_58 : cdC mi_Rods_isOf ∈ lw_tbl := tbl_2 _ (List.mem_of_getElem? (i := 173) rfl)
theorem cw_59 : cdC mi_Rods_keeperOf ∈ lw_tbl := tbl_2 _ (List.mem_of_getElem? (i := 220) rfl)
theorem cw_60 : cdC mi_Rods_backsOf ∈ lw_tbl := tbl_3 _ (List.mem_of_getElem? (i := 97) rfl)
theorem cw_61 : cdC mi_Rods_stepToGoalOf ∈ lw_tbl := tbl_2 _ (List.mem_of_getElem? (i := 207) rfl)
theorem cw_62 : cdC mi_Sights_init ∈ lw_tbl := tbl_1 _ (List.mem_of_getElem? (i := 146) rfl)
theorem cw_63 : cdC mi_Sights_size ∈ lw_tbl := tbl_3 _ (List.mem_of_getElem? (i := 210) rfl)
theorem cw_64 : cdC mi_Sights_add ∈ lw_tbl := tbl_3 _ (List.mem_of_getElem? (i := 206) rfl)
theorem cw_65 : cdC mi_Sights_clear ∈ lw_tbl := tbl_3 _ (List.mem_of_getElem? (i := 218) rfl)
theorem cw_66 : cdC mi_Sights_copyFrom ∈ lw_tbl := tbl_4 _ (List.mem_of_getElem? (i := 46) rfl)
theorem cw_67 : cdC mi_Sights_findRows ∈ lw_tbl := tbl_3 _ (List.mem_of_getElem? (i := 226) rfl)
theorem cw_68 : cdC mi_Sights_rowFound ∈ lw_tbl := tbl_4 _ (List.mem_of_getElem? (i := 0) rfl)
theorem cw_69 : cdC mi_Sights_bestShot ∈ lw_tbl := tbl_4 _ (List.mem_of_getElem? (i := 8) rfl)
theorem cw_70 : cdC mi_Sights_mostLeft ∈ lw_tbl := tbl_4 _ (List.mem_of_getElem? (i := 12) rfl)
theorem cw_71 : cdC mi_Sights_isRow ∈ lw_tbl := tbl_3 _ (List.mem_of_getElem? (i := 229) rfl)
theorem cw_72 : cdC mi_Sights_fitsAll ∈ lw_tbl := tbl_3 _ (List.mem_of_getElem? (i := 233) rfl)
theorem cw_73 : cdC mi_Sights_sideBy ∈ lw_tbl := tbl_3 _ (List.mem_of_getElem? (i := 236) rfl)
theorem cw_74 : cdC mi_Table_init ∈ lw_tbl := tbl_1 _ (List.mem_of_getElem? (i := 27) rfl)
theorem cw_75 : cdC mi_Table_copyFrom ∈ lw_tbl := tbl_2 _ (List.mem_of_getElem? (i := 122) rfl)
theorem cw_76 : cdC mi_Table_slideOf ∈ lw_tbl := tbl_1 _ (List.mem_of_getElem? (i := 226) rfl)
theorem cw_77 : cdC mi_Table_slideTo ∈ lw_tbl := tbl_1 _ (List.mem_of_getElem? (i := 230) rfl)
theorem cw_78 : cdC mi_Table_scoredBy ∈ lw_tbl := tbl_2 _ (List.mem_of_getElem? (i := 40) rfl)
theorem cw_79 : cdC mi_Table_setScored ∈ lw_tbl := tbl_2 _ (List.mem_of_getElem? (i := 44) rfl)
theorem cw_80 : cdC mi_Table_scoredInAll ∈ lw_tbl := tbl_2 _ (List.mem_of_getElem? (i := 193) rfl)
theorem cw_81 : cdC mi_Table_heldRods ∈ lw_tbl := tbl_4 _ (List.mem_of_getElem? (i := 63) rfl)
theorem cw_82 : cdC mi_Table_isHeld ∈ lw_tbl := tbl_2 _ (List.mem_of_getElem? (i := 3) rfl)
theorem cw_83 : cdC mi_Table_heldBy ∈ lw_tbl := tbl_2 _ (List.mem_of_getElem? (i := 8) rfl)
theorem cw_84 : cdC mi_Table_setHeld ∈ lw_tbl := tbl_2 _ (List.mem_of_getElem? (i := 14) rfl)
theorem cw_85 : cdC mi_Table_tenth ∈ lw_tbl := tbl_3 _ (List.mem_of_getElem? (i := 35) rfl)
theorem cw_86 : cdC mi_Table_isDead ∈ lw_tbl := tbl_2 _ (List.mem_of_getElem? (i := 152) rfl)
theorem cw_87 : cdC mi_Table_ballRod ∈ lw_tbl := tbl_3 _ (List.mem_of_getElem? (i := 23) rfl)
theorem cw_88 : cdC mi_Table_ballMan ∈ lw_tbl := tbl_3 _ (List.mem_of_getElem? (i := 27) rfl)
theorem cw_89 : cdC mi_Table_ballPlace ∈ lw_tbl := tbl_3 _ (List.mem_of_getElem? (i := 31) rfl)
theorem cw_90 : cdC mi_Table_loseBall ∈ lw_tbl := tbl_2 _ (List.mem_of_getElem? (i := 22) rfl)
theorem cw_91 : cdC mi_Table_giveBall ∈ lw_tbl := tbl_2 _ (List.mem_of_getElem? (i := 29) rfl)
theorem cw_92 : cdC mi_Table_placeOf ∈ lw_tbl := tbl_2 _ (List.mem_of_getElem? (i := 179) rfl)
theorem cw_93 : cdC mi_Table_covererOf ∈ lw_tbl := tbl_2 _ (List.mem_of_getElem? (i := 189) rfl)
theorem cw_94 : cdC mi_Table_nearestOf ∈ lw_tbl := tbl_2 _ (List.mem_of_getElem? (i := 184) rfl)
theorem cw_95 : cdC mi_Table_overFrom ∈ lw_tbl := tbl_2 _ (List.mem_of_getElem? (i := 170) rfl)
theorem cw_96 : cdC mi_Table_shotEnd ∈ lw_tbl := tbl_2 _ (List.mem_of_getElem? (i := 204) rfl)
theorem cw_97 : cdC mi_Table_reachesGoal ∈ lw_tbl := tbl_2 _ (List.mem_of_getElem? (i := 217) rfl)
theorem cw_98 : cdC mi_Table_shotsToGoal ∈ lw_tbl := tbl_3 _ (List.mem_of_getElem? (i := 105) rfl)
theorem cw_99 : cdC mi_Table_shotsPast ∈ lw_tbl := tbl_3 _ (List.mem_of_getElem? (i := 113) rfl)
theorem cw_100 : cdC mi_Table_bounced ∈ lw_tbl := tbl_2 _ (List.mem_of_getElem? (i := 210) rfl)
theorem cw_101 : cdC mi_Table_whyNot ∈ lw_tbl := tbl_2 _ (List.mem_of_getElem? (i := 144) rfl)
theorem cw_102 : cdC mi_Table_isPlayed ∈ lw_tbl := tbl_2 _ (List.mem_of_getElem? (i := 148) rfl)
theorem cw_103 : cdC mi_Table_isHeldWrongly ∈ lw_tbl := tbl_2 _ (List.mem_of_getElem? (i := 156) rfl)
theorem cw_104 : cdC mi_Table_isNextMan ∈ lw_tbl := tbl_2 _ (List.mem_of_getElem? (i := 163) rfl)
theorem cw_105 : cdC mi_Table_perform ∈ lw_tbl := tbl_2 _ (List.mem_of_getElem? (i := 197) rfl)
theorem cw_106 : cdC mi_Table_endShot ∈ lw_tbl := tbl_2 _ (List.mem_of_getElem? (i := 224) rfl)
theorem cw_107 : cdC mi_Table_tryDrawn ∈ lw_tbl := tbl_4 _ (List.mem_of_getElem? (i := 23) rfl)
theorem cw_108 : cdC mi_Table_drawnNumber ∈ lw_tbl := tbl_4 _ (List.mem_of_getElem? (i := 26) rfl)
theorem cw_109 : cdC mi_F_init ∈ lw_tbl := tbl_1 _ (List.mem_of_getElem? (i := 19) rfl)
theorem cw_110 : cdC mi_F_slide ∈ lw_tbl := tbl_1 _ (List.mem_of_getElem? (i := 215) rfl)
theorem cw_111 : cdC mi_F_hold ∈ lw_tbl := tbl_1 _ (List.mem_of_getElem? (i := 234) rfl)
theorem cw_112 : cdC mi_F_ball ∈ lw_tbl := tbl_2 _ (List.mem_of_getElem? (i := 18) rfl)
theorem cw_113 : cdC mi_F_goals ∈ lw_tbl := tbl_2 _ (List.mem_of_getElem? (i := 33) rfl)
theorem cw_114 : cdC mi_F_say ∈ lw_tbl := tbl_2 _ (List.mem_of_getElem? (i := 48) rfl)
theorem cw_115 : cdC mi_F_wipe ∈ lw_tbl := tbl_2 _ (List.mem_of_getElem? (i := 60) rfl)
theorem cw_116 : cdC mi_F_fault ∈ lw_tbl := tbl_2 _ (List.mem_of_getElem? (i := 68) rfl)
theorem cw_117 : cdC mi_F_judge ∈ lw_tbl := tbl_2 _ (List.mem_of_getElem? (i := 114) rfl)
theorem cw_118 : cdC mi_F_done ∈ lw_tbl := tbl_2 _ (List.mem_of_getElem? (i := 238) rfl)
theorem cw_119 : cdC mi_F_behind ∈ lw_tbl := tbl_3 _ (List.mem_of_getElem? (i := 15) rfl)
theorem cw_120 : cdC mi_F_then ∈ lw_tbl := tbl_3 _ (List.mem_of_getElem? (i := 19) rfl)
theorem cw_121 : cdC mi_F_ends ∈ lw_tbl := tbl_3 _ (List.mem_of_getElem? (i := 43) rfl)
theorem cw_122 : cdC mi_F_goesIn ∈ lw_tbl := tbl_3 _ (List.mem_of_getElem? (i := 49) rfl)
theorem cw_123 : cdC mi_F_path ∈ lw_tbl := tbl_3 _ (List.mem_of_getElem? (i := 56) rfl)
theorem cw_124 : cdC mi_F_stand ∈ lw_tbl := tbl_3 _ (List.mem_of_getElem? (i := 86) rfl)
theorem cw_125 : cdC mi_F_mix ∈ lw_tbl := tbl_3 _ (List.mem_of_getElem? (i := 137) rfl)
theorem cw_126 : cdC mi_F_hands ∈ lw_tbl := tbl_3 _ (List.mem_of_getElem? (i := 164) rfl)
theorem cw_127 : cdC mi_F_truly ∈ lw_tbl := tbl_3 _ (List.mem_of_getElem? (i := 184) rfl)
theorem cw_128 : cdC mi_F_race ∈ lw_tbl := tbl_3 _ (List.mem_of_getElem? (i := 194) rfl)
theorem cw_129 : cdC mi_F_seen ∈ lw_tbl := tbl_3 _ (List.mem_of_getElem? (i := 202) rfl)
theorem cw_130 : cdC mi_F_forget ∈ lw_tbl := tbl_3 _ (List.mem_of_getElem? (i := 214) rfl)
theorem cw_131 : cdC mi_F_fits ∈ lw_tbl := tbl_3 _ (List.mem_of_getElem? (i := 222) rfl)
theorem cw_132 : cdC mi_F_ask ∈ lw_tbl := tbl_4 _ (List.mem_of_getElem? (i := 4) rfl)
theorem cw_133 : cdC mi_F_year ∈ lw_tbl := tbl_4 _ (List.mem_of_getElem? (i := 18) rfl)
theorem cw_134 : cdC mi_F_image ∈ lw_tbl := tbl_4 _ (List.mem_of_getElem? (i := 33) rfl)
theorem cw_135 : cdC mi_F_restore ∈ lw_tbl := tbl_4 _ (List.mem_of_getElem? (i := 51) rfl)
theorem cw_136 : cdC mi_F_told ∈ lw_tbl := tbl_4 _ (List.mem_of_getElem? (i := 59) rfl)
theorem cw_137 : cdC mi_F_toldByNumber ∈ lw_tbl := tbl_4 _ (List.mem_of_getElem? (i := 67) rfl)
theorem cw_138 : cdC mi_F_playsThrough ∈ lw_tbl := tbl_3 _ (List.mem_of_getElem? (i := 2) rfl)
theorem cw_139 : cdC mi_F_imageOf ∈ lw_tbl := tbl_4 _ (List.mem_of_getElem? (i := 37) rfl)
theorem cw_140 : cdC mi_F_isWithin ∈ lw_tbl := tbl_1 _ (List.mem_of_getElem? (i := 222) rfl)
theorem cw_141 : cdC mi_F_isBit ∈ lw_tbl := tbl_2 _ (List.mem_of_getElem? (i := 36) rfl)
theorem cw_142 : cdC mi_F_isTenths ∈ lw_tbl := tbl_3 _ (List.mem_of_getElem? (i := 140) rfl)
theorem cw_143 : cdC mi_F_shotBit ∈ lw_tbl := tbl_3 _ (List.mem_of_getElem? (i := 52) rfl)
theorem cw_144 : cdC mi_F_copyRow ∈ lw_tbl := tbl_2 _ (List.mem_of_getElem? (i := 125) rfl)
theorem cw_145 : cdC mi_M_init ∈ lw_tbl := tbl_4 _ (List.mem_of_getElem? (i := 73) rfl)
theorem cw_146 : cdC mi_M_in ∈ lw_tbl := tbl_4 _ (List.mem_of_getElem? (i := 156) rfl)
theorem cw_147 : cdC mi_M_bits ∈ lw_tbl := tbl_5 _ (List.mem_of_getElem? (i := 74) rfl)
theorem cw_148 : cdC mi_M_isRod ∈ lw_tbl := tbl_4 _ (List.mem_of_getElem? (i := 153) rfl)
theorem cw_149 : cdC mi_M_sideOf ∈ lw_tbl := tbl_4 _ (List.mem_of_getElem? (i := 86) rfl)
theorem cw_150 : cdC mi_M_kindOf ∈ lw_tbl := tbl_4 _ (List.mem_of_getElem? (i := 83) rfl)
theorem cw_151 : cdC mi_M_menOf ∈ lw_tbl := tbl_4 _ (List.mem_of_getElem? (i := 80) rfl)
theorem cw_152 : cdC mi_M_apartOf ∈ lw_tbl := tbl_4 _ (List.mem_of_getElem? (i := 89) rfl)
theorem cw_153 : cdC mi_M_widest ∈ lw_tbl := tbl_4 _ (List.mem_of_getElem? (i := 77) rfl)
theorem cw_154 : cdC mi_M_isMan ∈ lw_tbl := tbl_4 _ (List.mem_of_getElem? (i := 175) rfl)
theorem cw_155 : cdC mi_M_held ∈ lw_tbl := tbl_4 _ (List.mem_of_getElem? (i := 168) rfl)
theorem cw_156 : cdC mi_M_slide ∈ lw_tbl := tbl_4 _ (List.mem_of_getElem? (i := 150) rfl)
theorem cw_157 : cdC mi_M_hold ∈ lw_tbl := tbl_4 _ (List.mem_of_getElem? (i := 160) rfl)
theorem cw_158 : cdC mi_M_ball ∈ lw_tbl := tbl_4 _ (List.mem_of_getElem? (i := 172) rfl)
theorem cw_159 : cdC mi_M_goals ∈ lw_tbl := tbl_4 _ (List.mem_of_getElem? (i := 179) rfl)
theorem cw_160 : cdC mi_M_say ∈ lw_tbl := tbl_4 _ (List.mem_of_getElem? (i := 183) rfl)
theorem cw_161 : cdC mi_M_wipe ∈ lw_tbl := tbl_4 _ (List.mem_of_getElem? (i := 187) rfl)
theorem cw_162 : cdC mi_M_step ∈ lw_tbl := tbl_4 _ (List.mem_of_getElem? (i := 198) rfl)
theorem cw_163 : cdC mi_M_faultOf ∈ lw_tbl := tbl_4 _ (List.mem_of_getElem? (i := 195) rfl)
theorem cw_164 : cdC mi_M_fault ∈ lw_tbl := tbl_4 _ (List.mem_of_getElem? (i := 191) rfl)
theorem cw_165 : cdC mi_M_standsAt ∈ lw_tbl := tbl_4 _ (List.mem_of_getElem? (i := 238) rfl)
theorem cw_166 : cdC mi_M_covers ∈ lw_tbl := tbl_5 _ (List.mem_of_getElem? (i := 2) rfl)
theorem cw_167 : cdC mi_M_shotBy ∈ lw_tbl := tbl_5 _ (List.mem_of_getElem? (i := 10) rfl)
theorem cw_168 : cdC mi_M_overBy ∈ lw_tbl := tbl_4 _ (List.mem_of_getElem? (i := 234) rfl)
theorem cw_169 : cdC mi_M_asNow ∈ lw_tbl := tbl_4 _ (List.mem_of_getElem? (i := 164) rfl)
theorem cw_170 : cdC mi_M_isOver ∈ lw_tbl := tbl_4 _ (List.mem_of_getElem? (i := 218) rfl)
theorem cw_171 : cdC mi_M_grasp ∈ lw_tbl := tbl_5 _ (List.mem_of_getElem? (i := 22) rfl)
theorem cw_172 : cdC mi_M_letGo ∈ lw_tbl := tbl_5 _ (List.mem_of_getElem? (i := 26) rfl)
theorem cw_173 : cdC mi_M_slideBy ∈ lw_tbl := tbl_5 _ (List.mem_of_getElem? (i := 30) rfl)
theorem cw_174 : cdC mi_M_whyNot ∈ lw_tbl := tbl_4 _ (List.mem_of_getElem? (i := 226) rfl)
theorem cw_175 : cdC mi_M_passTo ∈ lw_tbl := tbl_4 _ (List.mem_of_getElem? (i := 222) rfl)
theorem cw_176 : cdC mi_M_passOver ∈ lw_tbl := tbl_4 _ (List.mem_of_getElem? (i := 230) rfl)
theorem cw_177 : cdC mi_M_shoot ∈ lw_tbl := tbl_5 _ (List.mem_of_getElem? (i := 6) rfl)
theorem cw_178 : cdC mi_M_throwIn ∈ lw_tbl := tbl_5 _ (List.mem_of_getElem? (i := 14) rfl)
theorem cw_179 : cdC mi_M_endTenth ∈ lw_tbl := tbl_4 _ (List.mem_of_getElem? (i := 214) rfl)
theorem cw_180 : cdC mi_M_rodAct ∈ lw_tbl := tbl_5 _ (List.mem_of_getElem? (i := 18) rfl)
theorem cw_181 : cdC mi_M_nextAct ∈ lw_tbl := tbl_4 _ (List.mem_of_getElem? (i := 210) rfl)
theorem cw_182 : cdC mi_M_goEvenings ∈ lw_tbl := tbl_4 _ (List.mem_of_getElem? (i := 206) rfl)
theorem cw_183 : cdC mi_M_judge ∈ lw_tbl := tbl_4 _ (List.mem_of_getElem? (i := 202) rfl)
theorem cw_184 : cdC mi_M_barOfEvenings ∈ lw_tbl := tbl_5 _ (List.mem_of_getElem? (i := 38) rfl)
theorem cw_185 : cdC mi_M_done ∈ lw_tbl := tbl_5 _ (List.mem_of_getElem? (i := 34) rfl)
theorem cw_186 : cdC mi_M_behind ∈ lw_tbl := tbl_5 _ (List.mem_of_getElem? (i := 42) rfl)
theorem cw_187 : cdC mi_M_then ∈ lw_tbl := tbl_5 _ (List.mem_of_getElem? (i := 46) rfl)
theorem cw_188 : cdC mi_M_ends ∈ lw_tbl := tbl_5 _ (List.mem_of_getElem? (i := 50) rfl)
theorem cw_189 : cdC mi_M_allIn ∈ lw_tbl := tbl_5 _ (List.mem_of_getElem? (i := 58) rfl)
theorem cw_190 : cdC mi_M_goesIn ∈ lw_tbl := tbl_5 _ (List.mem_of_getElem? (i := 54) rfl)
theorem cw_191 : cdC mi_M_passes ∈ lw_tbl := tbl_5 _ (List.mem_of_getElem? (i := 67) rfl)
theorem cw_192 : cdC mi_M_path ∈ lw_tbl := tbl_5 _ (List.mem_of_getElem? (i := 62) rfl)
theorem cw_193 : cdC mi_M_stand ∈ lw_tbl := tbl_5 _ (List.mem_of_getElem? (i := 71) rfl)
theorem cw_194 : cdC mi_M_lowest ∈ lw_tbl := tbl_5 _ (List.mem_of_getElem? (i := 83) rfl)
theorem cw_195 : cdC mi_M_mix ∈ lw_tbl := tbl_5 _ (List.mem_of_getElem? (i := 78) rfl)
theorem cw_196 : cdC mi_M_hands ∈ lw_tbl := tbl_5 _ (List.mem_of_getElem? (i := 87) rfl)
theorem cw_197 : cdC mi_M_power ∈ lw_tbl := tbl_5 _ (List.mem_of_getElem? (i := 94) rfl)
theorem cw_198 : cdC mi_M_truly ∈ lw_tbl := tbl_5 _ (List.mem_of_getElem? (i := 91) rfl)
theorem cw_199 : cdC mi_M_race ∈ lw_tbl := tbl_5 _ (List.mem_of_getElem? (i := 98) rfl)
theorem cw_200 : cdC mi_M_seen ∈ lw_tbl := tbl_5 _ (List.mem_of_getElem? (i := 103) rfl)
theorem cw_201 : cdC mi_M_forget ∈ lw_tbl := tbl_5 _ (List.mem_of_getElem? (i := 107) rfl)
theorem cw_202 : cdC mi_M_sideAt ∈ lw_tbl := tbl_5 _ (List.mem_of_getElem? (i := 118) rfl)
theorem cw_203 : cdC mi_M_isFit ∈ lw_tbl := tbl_5 _ (List.mem_of_getElem? (i := 115) rfl)
theorem cw_204 : cdC mi_M_fits ∈ lw_tbl := tbl_5 _ (List.mem_of_getElem? (i := 111) rfl)
theorem cw_205 : cdC mi_M_ask ∈ lw_tbl := tbl_5 _ (List.mem_of_getElem? (i := 122) rfl)
theorem cw_206 : cdC mi_M_year ∈ lw_tbl := tbl_5 _ (List.mem_of_getElem? (i := 126) rfl)
theorem cw_207 : cdC mi_M_image ∈ lw_tbl := tbl_5 _ (List.mem_of_getElem? (i := 131) rfl)
theorem cw_208 : cdC mi_M_restore ∈ lw_tbl := tbl_5 _ (List.mem_of_getElem? (i := 135) rfl)
theorem cw_209 : cdC mi_M_told ∈ lw_tbl := tbl_5 _ (List.mem_of_getElem? (i := 139) rfl)
theorem cw_210 : cdC mi_Integer_bitCount ∈ lw_tbl := tbl_3 _ (List.mem_of_getElem? (i := 122) rfl)
theorem cw_211 : cdC mi_Math_floorMod ∈ lw_tbl := tbl_2 _ (List.mem_of_getElem? (i := 213) rfl)
theorem cw_212 : cdC mi_Math_abs ∈ lw_tbl := tbl_2 _ (List.mem_of_getElem? (i := 166) rfl)
theorem cw_213 : cdC mi_Math_max ∈ lw_tbl := tbl_3 _ (List.mem_of_getElem? (i := 153) rfl)
theorem cw_214 : cdC mi_Math_min ∈ lw_tbl := tbl_3 _ (List.mem_of_getElem? (i := 150) rfl)
theorem cg_0 (ts : List MIt) (h : ∀ i ∈ ts, cdC i ∈ lw_tbl) : ∀ i ∈ mi_Chances_part :: mi_Chances_commonDivisor :: mi_Chances_mixed :: mi_Chances_mixedInOrder :: mi_Chances_isTheFirst :: mi_Chances_winsRace :: mi_Chances_power :: mi_Defence_init :: mi_Defence_letIn :: mi_Defence_slides :: mi_Defence_place :: mi_Defence_shotsPastOthers :: mi_Defence_tryKeeper :: mi_Evening_init :: mi_Evening_table :: mi_Evening_acts :: mi_Evening_stoppedAt :: mi_Evening_reason :: mi_Evening_firstGoal :: mi_Evening_play :: mi_Grasps_isRow :: mi_Grasps_fewest :: mi_Grasps_needed :: mi_Grasps_latest :: ts, cdC i ∈ lw_tbl := List.forall_mem_cons.mpr ⟨cw_0, List.forall_mem_cons.mpr ⟨cw_1, List.forall_mem_cons.mpr ⟨cw_2, List.forall_mem_cons.mpr ⟨cw_3, List.forall_mem_cons.mpr ⟨cw_4, List.forall_mem_cons.mpr ⟨cw_5, List.forall_mem_cons.mpr ⟨cw_6, List.forall_mem_cons.mpr ⟨cw_7, List.forall_mem_cons.mpr ⟨cw_8, List.forall_mem_cons.mpr ⟨cw_9, List.forall_mem_cons.mpr ⟨cw_10, List.forall_mem_cons.mpr ⟨cw_11, List.forall_mem_cons.mpr ⟨cw_12, List.forall_mem_cons.mpr ⟨cw_13, List.forall_mem_cons.mpr ⟨cw_14, List.forall_mem_cons.mpr ⟨cw_15, List.forall_mem_cons.mpr ⟨cw_16, List.forall_mem_cons.mpr ⟨cw_17, List.forall_mem_cons.mpr ⟨cw_18, List.forall_mem_cons.mpr ⟨cw_19, List.forall_mem_cons.mpr ⟨cw_20, List.forall_mem_cons.mpr ⟨cw_21, List.forall_mem_cons.mpr ⟨cw_22, List.forall_mem_cons.mpr ⟨cw_23, h⟩⟩⟩⟩⟩⟩⟩⟩⟩⟩⟩⟩⟩⟩⟩⟩⟩⟩⟩⟩⟩⟩⟩⟩
theorem cg_1 (ts : List MIt) (h : ∀ i ∈ ts, cdC i ∈ lw_tbl) : ∀ i ∈ mi_Grasps_nextNeed :: mi_Image_init :: mi_Image_keep :: mi_Image_giveBack :: mi_Pad_init :: mi_Pad_size :: mi_Pad_add :: mi_Pad_clear :: mi_Pad_rewind :: mi_Pad_isReadOut :: mi_Pad_kind :: mi_Pad_rod :: mi_Pad_number :: mi_Pad_faultPlace :: mi_Pad_readAct :: mi_Pad_takesHandling :: mi_Pad_takesWay :: mi_Pad_takes :: mi_Pad_takesRod :: mi_Pad_takesDigit :: mi_Pad_nextSign :: mi_Passes_init :: mi_Passes_from :: mi_Passes_countTo :: ts, cdC i ∈ lw_tbl := List.forall_mem_cons.mpr ⟨cw_24, List.forall_mem_cons.mpr ⟨cw_25, List.forall_mem_cons.mpr ⟨cw_26, List.forall_mem_cons.mpr ⟨cw_27, List.forall_mem_cons.mpr ⟨cw_28, List.forall_mem_cons.mpr ⟨cw_29, List.forall_mem_cons.mpr ⟨cw_30, List.forall_mem_cons.mpr ⟨cw_31, List.forall_mem_cons.mpr ⟨cw_32, List.forall_mem_cons.mpr ⟨cw_33, List.forall_mem_cons.mpr ⟨cw_34, List.forall_mem_cons.mpr ⟨cw_35, List.forall_mem_cons.mpr ⟨cw_36, List.forall_mem_cons.mpr ⟨cw_37, List.forall_mem_cons.mpr ⟨cw_38, List.forall_mem_cons.mpr ⟨cw_39, List.forall_mem_cons.mpr ⟨cw_40, List.forall_mem_cons.mpr ⟨cw_41, List.forall_mem_cons.mpr ⟨cw_42, List.forall_mem_cons.mpr ⟨cw_43, List.forall_mem_cons.mpr ⟨cw_44, List.forall_mem_cons.mpr ⟨cw_45, List.forall_mem_cons.mpr ⟨cw_46, List.forall_mem_cons.mpr ⟨cw_47, h⟩⟩⟩⟩⟩⟩⟩⟩⟩⟩⟩⟩⟩⟩⟩⟩⟩⟩⟩⟩⟩⟩⟩⟩
theorem cg_2 (ts : List MIt) (h : ∀ i ∈ ts, cdC i ∈ lw_tbl) : ∀ i ∈ mi_Passes_leads :: mi_Passes_firstFrom :: mi_Passes_receiver :: mi_Passes_ownOnly :: mi_Rods_isRod :: mi_Rods_isMan :: mi_Rods_sideOf :: mi_Rods_menOf :: mi_Rods_gapOf :: mi_Rods_lastSlide :: mi_Rods_isOf :: mi_Rods_keeperOf :: mi_Rods_backsOf :: mi_Rods_stepToGoalOf :: mi_Sights_init :: mi_Sights_size :: mi_Sights_add :: mi_Sights_clear :: mi_Sights_copyFrom :: mi_Sights_findRows :: mi_Sights_rowFound :: mi_Sights_bestShot :: mi_Sights_mostLeft :: mi_Sights_isRow :: ts, cdC i ∈ lw_tbl := List.forall_mem_cons.mpr ⟨cw_48, List.forall_mem_cons.mpr ⟨cw_49, List.forall_mem_cons.mpr ⟨cw_50, List.forall_mem_cons.mpr ⟨cw_51, List.forall_mem_cons.mpr ⟨cw_52, List.forall_mem_cons.mpr ⟨cw_53, List.forall_mem_cons.mpr ⟨cw_54, List.forall_mem_cons.mpr ⟨cw_55, List.forall_mem_cons.mpr ⟨cw_56, List.forall_mem_cons.mpr ⟨cw_57, List.forall_mem_cons.mpr ⟨cw_58, List.forall_mem_cons.mpr ⟨cw_59, List.forall_mem_cons.mpr ⟨cw_60, List.forall_mem_cons.mpr ⟨cw_61, List.forall_mem_cons.mpr ⟨cw_62, List.forall_mem_cons.mpr ⟨cw_63, List.forall_mem_cons.mpr ⟨cw_64, List.forall_mem_cons.mpr ⟨cw_65, List.forall_mem_cons.mpr ⟨cw_66, List.forall_mem_cons.mpr ⟨cw_67, List.forall_mem_cons.mpr ⟨cw_68, List.forall_mem_cons.mpr ⟨cw_69, List.forall_mem_cons.mpr ⟨cw_70, List.forall_mem_cons.mpr ⟨cw_71, h⟩⟩⟩⟩⟩⟩⟩⟩⟩⟩⟩⟩⟩⟩⟩⟩⟩⟩⟩⟩⟩⟩⟩⟩
theorem cg_3 (ts : List MIt) (h : ∀ i ∈ ts, cdC i ∈ lw_tbl) : ∀ i ∈ mi_Sights_fitsAll :: mi_Sights_sideBy :: mi_Table_init :: mi_Table_copyFrom :: mi_Table_slideOf :: mi_Table_slideTo :: mi_Table_scoredBy :: mi_Table_setScored :: mi_Table_scoredInAll :: mi_Table_heldRods :: mi_Table_isHeld :: mi_Table_heldBy :: mi_Table_setHeld :: mi_Table_tenth :: mi_Table_isDead :: mi_Table_ballRod :: mi_Table_ballMan :: mi_Table_ballPlace :: mi_Table_loseBall :: mi_Table_giveBall :: mi_Table_placeOf :: mi_Table_covererOf :: mi_Table_nearestOf :: mi_Table_overFrom :: ts, cdC i ∈ lw_tbl := List.forall_mem_cons.mpr ⟨cw_72, List.forall_mem_cons.mpr ⟨cw_73, List.forall_mem_cons.mpr ⟨cw_74, List.forall_mem_cons.mpr ⟨cw_75, List.forall_mem_cons.mpr ⟨cw_76, List.forall_mem_cons.mpr ⟨cw_77, List.forall_mem_cons.mpr ⟨cw_78, List.forall_mem_cons.mpr ⟨cw_79, List.forall_mem_cons.mpr ⟨cw_80, List.forall_mem_cons.mpr ⟨cw_81, List.forall_mem_cons.mpr ⟨cw_82, List.forall_mem_cons.mpr ⟨cw_83, List.forall_mem_cons.mpr ⟨cw_84, List.forall_mem_cons.mpr ⟨cw_85, List.forall_mem_cons.mpr ⟨cw_86, List.forall_mem_cons.mpr ⟨cw_87, List.forall_mem_cons.mpr ⟨cw_88, List.forall_mem_cons.mpr ⟨cw_89, List.forall_mem_cons.mpr ⟨cw_90, List.forall_mem_cons.mpr ⟨cw_91, List.forall_mem_cons.mpr ⟨cw_92, List.forall_mem_cons.mpr ⟨cw_93, List.forall_mem_cons.mpr ⟨cw_94, List.forall_mem_cons.mpr ⟨cw_95, h⟩⟩⟩⟩⟩⟩⟩⟩⟩⟩⟩⟩⟩⟩⟩⟩⟩⟩⟩⟩⟩⟩⟩⟩
theorem cg_4 (ts : List MIt) (h : ∀ i ∈ ts, cdC i ∈ lw_tbl) : ∀ i ∈ mi_Table_shotEnd :: mi_Table_reachesGoal :: mi_Table_shotsToGoal :: mi_Table_shotsPast :: mi_Table_bounced :: mi_Table_whyNot :: mi_Table_isPlayed :: mi_Table_isHeldWrongly :: mi_Table_isNextMan :: mi_Table_perform :: mi_Table_endShot :: mi_Table_tryDrawn :: mi_Table_drawnNumber :: mi_F_init :: mi_F_slide :: mi_F_hold :: mi_F_ball :: mi_F_goals :: mi_F_say :: mi_F_wipe :: mi_F_fault :: mi_F_judge :: mi_F_done :: mi_F_behind :: ts, cdC i ∈ lw_tbl := List.forall_mem_cons.mpr ⟨cw_96, List.forall_mem_cons.mpr ⟨cw_97, List.forall_mem_cons.mpr ⟨cw_98, List.forall_mem_cons.mpr ⟨cw_99, List.forall_mem_cons.mpr ⟨cw_100, List.forall_mem_cons.mpr ⟨cw_101, List.forall_mem_cons.mpr ⟨cw_102, List.forall_mem_cons.mpr ⟨cw_103, List.forall_mem_cons.mpr ⟨cw_104, List.forall_mem_cons.mpr ⟨cw_105, List.forall_mem_cons.mpr ⟨cw_106, List.forall_mem_cons.mpr ⟨cw_107, List.forall_mem_cons.mpr ⟨cw_108, List.forall_mem_cons.mpr ⟨cw_109, List.forall_mem_cons.mpr ⟨cw_110, List.forall_mem_cons.mpr ⟨cw_111, List.forall_mem_cons.mpr ⟨cw_112, List.forall_mem_cons.mpr ⟨cw_113, List.forall_mem_cons.mpr ⟨cw_114, List.forall_mem_cons.mpr ⟨cw_115, List.forall_mem_cons.mpr ⟨cw_116, List.forall_mem_cons.mpr ⟨cw_117, List.forall_mem_cons.mpr ⟨cw_118, List.forall_mem_cons.mpr ⟨cw_119, h⟩⟩⟩⟩⟩⟩⟩⟩⟩⟩⟩⟩⟩⟩⟩⟩⟩⟩⟩⟩⟩⟩⟩⟩
theorem cg_5 (ts : List MIt) (h : ∀ i ∈ ts, cdC i ∈ lw_tbl) : ∀ i ∈ mi_F_then :: mi_F_ends :: mi_F_goesIn :: mi_F_path :: mi_F_stand :: mi_F_mix :: mi_F_hands :: mi_F_truly :: mi_F_race :: mi_F_seen :: mi_F_forget :: mi_F_fits :: mi_F_ask :: mi_F_year :: mi_F_image :: mi_F_restore :: mi_F_told :: mi_F_toldByNumber :: mi_F_playsThrough :: mi_F_imageOf :: mi_F_isWithin :: mi_F_isBit :: mi_F_isTenths :: mi_F_shotBit :: ts, cdC i ∈ lw_tbl := List.forall_mem_cons.mpr ⟨cw_120, List.forall_mem_cons.mpr ⟨cw_121, List.forall_mem_cons.mpr ⟨cw_122, List.forall_mem_cons.mpr ⟨cw_123, List.forall_mem_cons.mpr ⟨cw_124, List.forall_mem_cons.mpr ⟨cw_125, List.forall_mem_cons.mpr ⟨cw_126, List.forall_mem_cons.mpr ⟨cw_127, List.forall_mem_cons.mpr ⟨cw_128, List.forall_mem_cons.mpr ⟨cw_129, List.forall_mem_cons.mpr ⟨cw_130, List.forall_mem_cons.mpr ⟨cw_131, List.forall_mem_cons.mpr ⟨cw_132, List.forall_mem_cons.mpr ⟨cw_133, List.forall_mem_cons.mpr ⟨cw_134, List.forall_mem_cons.mpr ⟨cw_135, List.forall_mem_cons.mpr ⟨cw_136, List.forall_mem_cons.mpr ⟨cw_137, List.forall_mem_cons.mpr ⟨cw_138, List.forall_mem_cons.mpr ⟨cw_139, List.forall_mem_cons.mpr ⟨cw_140, List.forall_mem_cons.mpr ⟨cw_141, List.forall_mem_cons.mpr ⟨cw_142, List.forall_mem_cons.mpr ⟨cw_143, h⟩⟩⟩⟩⟩⟩⟩⟩⟩⟩⟩⟩⟩⟩⟩⟩⟩⟩⟩⟩⟩⟩⟩⟩
theorem cg_6 (ts : List MIt) (h : ∀ i ∈ ts, cdC i ∈ lw_tbl) : ∀ i ∈ mi_F_copyRow :: mi_M_init :: mi_M_in :: mi_M_bits :: mi_M_isRod :: mi_M_sideOf :: mi_M_kindOf :: mi_M_menOf :: mi_M_apartOf :: mi_M_widest :: mi_M_isMan :: mi_M_held :: mi_M_slide :: mi_M_hold :: mi_M_ball :: mi_M_goals :: mi_M_say :: mi_M_wipe :: mi_M_step :: mi_M_faultOf :: mi_M_fault :: mi_M_standsAt :: mi_M_covers :: mi_M_shotBy :: ts, cdC i ∈ lw_tbl := List.forall_mem_cons.mpr ⟨cw_144, List.forall_mem_cons.mpr ⟨cw_145, List.forall_mem_cons.mpr ⟨cw_146, List.forall_mem_cons.mpr ⟨cw_147, List.forall_mem_cons.mpr ⟨cw_148, List.forall_mem_cons.mpr ⟨cw_149, List.forall_mem_cons.mpr ⟨cw_150, List.forall_mem_cons.mpr ⟨cw_151, List.forall_mem_cons.mpr ⟨cw_152, List.forall_mem_cons.mpr ⟨cw_153, List.forall_mem_cons.mpr ⟨cw_154, List.forall_mem_cons.mpr ⟨cw_155, List.forall_mem_cons.mpr ⟨cw_156, List.forall_mem_cons.mpr ⟨cw_157, List.forall_mem_cons.mpr ⟨cw_158, List.forall_mem_cons.mpr ⟨cw_159, List.forall_mem_cons.mpr ⟨cw_160, List.forall_mem_cons.mpr ⟨cw_161, List.forall_mem_cons.mpr ⟨cw_162, List.forall_mem_cons.mpr ⟨cw_163, List.forall_mem_cons.mpr ⟨cw_164, List.forall_mem_cons.mpr ⟨cw_165, List.forall_mem_cons.mpr ⟨cw_166, List.forall_mem_cons.mpr ⟨cw_167, h⟩⟩⟩⟩⟩⟩⟩⟩⟩⟩⟩⟩⟩⟩⟩⟩⟩⟩⟩⟩⟩⟩⟩⟩
theorem cg_7 (ts : List MIt) (h : ∀ i ∈ ts, cdC i ∈ lw_tbl) : ∀ i ∈ mi_M_overBy :: mi_M_asNow :: mi_M_isOver :: mi_M_grasp :: mi_M_letGo :: mi_M_slideBy :: mi_M_whyNot :: mi_M_passTo :: mi_M_passOver :: mi_M_shoot :: mi_M_throwIn :: mi_M_endTenth :: mi_M_rodAct :: mi_M_nextAct :: mi_M_goEvenings :: mi_M_judge :: mi_M_barOfEvenings :: mi_M_done :: mi_M_behind :: mi_M_then :: mi_M_ends :: mi_M_allIn :: mi_M_goesIn :: mi_M_passes :: ts, cdC i ∈ lw_tbl := List.forall_mem_cons.mpr ⟨cw_168, List.forall_mem_cons.mpr ⟨cw_169, List.forall_mem_cons.mpr ⟨cw_170, List.forall_mem_cons.mpr ⟨cw_171, List.forall_mem_cons.mpr ⟨cw_172, List.forall_mem_cons.mpr ⟨cw_173, List.forall_mem_cons.mpr ⟨cw_174, List.forall_mem_cons.mpr ⟨cw_175, List.forall_mem_cons.mpr ⟨cw_176, List.forall_mem_cons.mpr ⟨cw_177, List.forall_mem_cons.mpr ⟨cw_178, List.forall_mem_cons.mpr ⟨cw_179, List.forall_mem_cons.mpr ⟨cw_180, List.forall_mem_cons.mpr ⟨cw_181, List.forall_mem_cons.mpr ⟨cw_182, List.forall_mem_cons.mpr ⟨cw_183, List.forall_mem_cons.mpr ⟨cw_184, List.forall_mem_cons.mpr ⟨cw_185, List.forall_mem_cons.mpr ⟨cw_186, List.forall_mem_cons.mpr ⟨cw_187, List.forall_mem_cons.mpr ⟨cw_188, List.forall_mem_cons.mpr ⟨cw_189, List.forall_mem_cons.mpr ⟨cw_190, List.forall_mem_cons.mpr ⟨cw_191, h⟩⟩⟩⟩⟩⟩⟩⟩⟩⟩⟩⟩⟩⟩⟩⟩⟩⟩⟩⟩⟩⟩⟩⟩
theorem cg_8 (ts : List MIt) (h : ∀ i ∈ ts, cdC i ∈ lw_tbl) : ∀ i ∈ mi_M_path :: mi_M_stand :: mi_M_lowest :: mi_M_mix :: mi_M_hands :: mi_M_power :: mi_M_truly :: mi_M_race :: mi_M_seen :: mi_M_forget :: mi_M_sideAt :: mi_M_isFit :: mi_M_fits :: mi_M_ask :: mi_M_year :: mi_M_image :: mi_M_restore :: mi_M_told :: mi_Integer_bitCount :: mi_Math_floorMod :: mi_Math_abs :: mi_Math_max :: mi_Math_min :: ts, cdC i ∈ lw_tbl := List.forall_mem_cons.mpr ⟨cw_192, List.forall_mem_cons.mpr ⟨cw_193, List.forall_mem_cons.mpr ⟨cw_194, List.forall_mem_cons.mpr ⟨cw_195, List.forall_mem_cons.mpr ⟨cw_196, List.forall_mem_cons.mpr ⟨cw_197, List.forall_mem_cons.mpr ⟨cw_198, List.forall_mem_cons.mpr ⟨cw_199, List.forall_mem_cons.mpr ⟨cw_200, List.forall_mem_cons.mpr ⟨cw_201, List.forall_mem_cons.mpr ⟨cw_202, List.forall_mem_cons.mpr ⟨cw_203, List.forall_mem_cons.mpr ⟨cw_204, List.forall_mem_cons.mpr ⟨cw_205, List.forall_mem_cons.mpr ⟨cw_206, List.forall_mem_cons.mpr ⟨cw_207, List.forall_mem_cons.mpr ⟨cw_208, List.forall_mem_cons.mpr ⟨cw_209, List.forall_mem_cons.mpr ⟨cw_210, List.forall_mem_cons.mpr ⟨cw_211, List.forall_mem_cons.mpr ⟨cw_212, List.forall_mem_cons.mpr ⟨cw_213, List.forall_mem_cons.mpr ⟨cw_214, h⟩⟩⟩⟩⟩⟩⟩⟩⟩⟩⟩⟩⟩⟩⟩⟩⟩⟩⟩⟩⟩⟩⟩
set_option maxRecDepth 100000 in
theorem MIc_in : ∀ i ∈ MIc, cdC i ∈ lw_tbl := (cg_0 _ (cg_1 _ (cg_2 _ (cg_3 _ (cg_4 _ (cg_5 _ (cg_6 _ (cg_7 _ (cg_8 _ (fun _ h => absurd h List.not_mem_nil))))))))))
theorem A_code_in : ∀ w ∈ A_code, w ∈ lw_tbl := by
  intro w h
  obtain ⟨i, hi, rfl⟩ := List.mem_map.mp h
  exact MIc_in i hi
theorem inst_0 : Jvm.Cond.instantiable (cnm 0) (nfC 0) ∈ lw_tbl := List.mem_of_getElem? (i := 163) (by decide +kernel)
theorem inst_1 : Jvm.Cond.instantiable (cnm 1) (nfC 1) ∈ lw_tbl := List.mem_of_getElem? (i := 129) (by decide +kernel)
theorem inst_2 : Jvm.Cond.instantiable (cnm 2) (nfC 2) ∈ lw_tbl := List.mem_of_getElem? (i := 206) (by decide +kernel)
theorem inst_3 : Jvm.Cond.instantiable (cnm 3) (nfC 3) ∈ lw_tbl := List.mem_of_getElem? (i := 104) (by decide +kernel)
theorem inst_4 : Jvm.Cond.instantiable (cnm 4) (nfC 4) ∈ lw_tbl := List.mem_of_getElem? (i := 153) (by decide +kernel)
theorem inst_5 : Jvm.Cond.instantiable (cnm 5) (nfC 5) ∈ lw_tbl := List.mem_of_getElem? (i := 184) (by decide +kernel)
theorem inst_6 : Jvm.Cond.instantiable (cnm 6) (nfC 6) ∈ lw_tbl := List.mem_of_getElem? (i := 65) (by decide +kernel)
theorem inst_7 : Jvm.Cond.instantiable (cnm 7) (nfC 7) ∈ lw_tbl := List.mem_of_getElem? (i := 57) (by decide +kernel)
theorem inst_8 : Jvm.Cond.instantiable (cnm 8) (nfC 8) ∈ lw_tbl := List.mem_of_getElem? (i := 831) (by decide +kernel)
theorem inst_in : ∀ k, k < 9 → Jvm.Cond.instantiable (cnm k) (nfC k) ∈ lw_tbl := by
  intro k hk
  match k, hk with
  | 0, _ => exact inst_0
  | 1, _ => exact inst_1
  | 2, _ => exact inst_2
  | 3, _ => exact inst_3
  | 4, _ => exact inst_4
  | 5, _ => exact inst_5
  | 6, _ => exact inst_6
  | 7, _ => exact inst_7
  | 8, _ => exact inst_8
  | k + 9, h => exact absurd h (by omega)
theorem lays0 : Jvm.Cond.laysStatic SOW "SIDES" "[I" ∈ lw_tbl := List.mem_of_getElem? (i := 280) (by decide +kernel)
theorem lays1 : Jvm.Cond.laysStatic SOW "MEN" "[I" ∈ lw_tbl := List.mem_of_getElem? (i := 77) (by decide +kernel)
theorem lays2 : Jvm.Cond.laysStatic SOW "GAPS" "[I" ∈ lw_tbl := List.mem_of_getElem? (i := 82) (by decide +kernel)
theorem ALL_in : ∀ w ∈ ALL, w ∈ lw_tbl := fun w h => (List.mem_append.mp h).elim (A_code_in w) (AL2_in w)
theorem AL2_good : AL2.all goodWord = true := by decide +kernel
theorem ALL_good : ∀ w ∈ ALL, goodWord w = true := by
  intro w h
  rcases List.mem_append.mp h with h | h
  · obtain ⟨i, -, rfl⟩ := List.mem_map.mp h
    rfl
  · exact List.all_eq_true.mp AL2_good w h
def NSTw : List Jvm.Cond := NST.map (fun q => .methodLinkNest (cnm q.1) q.2.1 (yM q.2.2.1) q.2.2.2)
def NSTp : List Nat := [105, 130, 154, 164, 185, 207, 214, 378, 404, 628, 808]
theorem NST_eq : NSTw = NSTp.filterMap (fun i => lw_tbl[i]?) := by decide +kernel
theorem NST_in : ∀ w ∈ NSTw, w ∈ lw_tbl := by
  intro w h
  rw [NST_eq] at h
  obtain ⟨i, -, hi⟩ := List.mem_filterMap.mp h
  exact List.mem_of_getElem? hi
end
section
-- the world of a small heap: place i lies at the address B + i
def cv (B : Nat) (sd : Nat → Nat) : MV → Value
  | .inl z => .int (Int32.ofInt z)
  | .inr (.inl z) => .long (Int64.ofInt z)
  | .inr (.inr (.inl k)) => .ref (B + k)
  | .inr (.inr (.inr (.inl k))) => .ref (sd k)
  | .inr (.inr (.inr (.inr _))) => .null
def fI (l : List Int) : Nat → Int32 := fun j => Int32.ofInt (l.getD j 0)
def fL (l : List Int) : Nat → Int64 := fun j => Int64.ofInt (l.getD j 0)
def ce (K : Nat → ClassId) (B : Nat) (sd : Nat → Nat) : HC → va_E
  | .inl (ci, fs) => .inr (ci, fs.map (cv B sd))
  | .inr (kd, l) => if kd = 0 then .inl (K 0, l.length, .inl (fI l)) else if kd = 1 then .inl (K 1, l.length, .inr (.inl (fL l))) else .inl (K 2, l.length, .inl (fI l))
def wd (K : Nat → ClassId) (B : Nat) (sd : Nat → Nat) (h : MH) : va_W := h.mapIdx (fun i c => (B + i, ce K B sd c))
def csz : HC → Nat
  | .inl (ci, _) => nfC ci
  | .inr (_, l) => l.length
def slt (h : MH) : Nat := (h.map csz).sum
abbrev AB (B : Nat) : Nat → Prop := fun q => B ≤ q
section WD
variable {K : Nat → ClassId} {B : Nat} {sd : Nat → Nat} {h : MH} {i : Nat} {c c0 : HC}
theorem wd_get : (wd K B sd h)[i]? = (h[i]?).map (fun c => (B + i, ce K B sd c)) := by
  unfold wd
  rw [List.getElem?_mapIdx]
theorem wd_at (hq : h[i]? = some c) : (wd K B sd h)[i]? = some (B + i, ce K B sd c) := by
  rw [wd_get, hq]
  rfl
theorem wd_some {q : Nat × va_E} (hq : (wd K B sd h)[i]? = some q) : ∃ c, h[i]? = some c ∧ q = (B + i, ce K B sd c) := by
  rw [wd_get] at hq
  cases hc : h[i]? with
  | none => rw [hc] at hq; cases hq
  | some c => rw [hc] at hq; exact ⟨c, rfl, (Option.some.inj hq).symm⟩
theorem wd_set (hq : h[i]? = some c0) : (wd K B sd h).set i (B + i, ce K B sd c) = wd K B sd (h.set i c) := by
  have hl : i < h.length := (List.getElem?_eq_some_iff.mp hq).1
  apply List.ext_getElem?
  intro j
  have hl2 : i < (wd K B sd h).length := by unfold wd; rw [List.length_mapIdx]; exact hl
  by_cases hj : i = j
  · subst hj
    rw [List.getElem?_set_self hl2, wd_get, List.getElem?_set_self hl]
    rfl
  · rw [List.getElem?_set_ne hj, wd_get, wd_get, List.getElem?_set_ne hj]
theorem wd_push : wd K B sd (h ++ [c]) = wd K B sd h ++ [(B + h.length, ce K B sd c)] := by
  have hl : (wd K B sd h).length = h.length := by unfold wd; rw [List.length_mapIdx]
  apply List.ext_getElem?
  intro j
  rw [wd_get]
  by_cases hj : j < h.length
  · rw [List.getElem?_append_left hj, List.getElem?_append_left (by rw [hl]; exact hj), wd_get]
  · rw [List.getElem?_append_right (by omega), List.getElem?_append_right (by rw [hl]; omega), hl]
    by_cases hj2 : j = h.length
    · subst hj2
      simp
    · have h1 : 0 < j - h.length := by omega
      rw [List.getElem?_eq_none (by simp; omega), List.getElem?_eq_none (by simp; omega)]
      rfl
theorem wd_D : va_D (AB B) (wd K B sd h) := by
  refine ⟨fun i j p q hi hj hpq => ?_, fun k q hk => ?_⟩
  · obtain ⟨c1, -, rfl⟩ := wd_some hi
    obtain ⟨c2, -, rfl⟩ := wd_some hj
    have : B + i = B + j := hpq
    omega
  · obtain ⟨c1, -, rfl⟩ := wd_some hk
    exact Nat.le_add_right _ _
end WD
theorem slt_set {h : MH} {i : Nat} {c0 c : HC} (hq : h[i]? = some c0) (hs : csz c = csz c0) : slt (h.set i c) = slt h := by
  induction h generalizing i with
  | nil => rfl
  | cons a h ih =>
    cases i with
    | zero =>
      rw [List.getElem?_cons_zero] at hq
      cases hq
      simp [slt, hs]
    | succ i =>
      rw [List.getElem?_cons_succ] at hq
      have := ih hq
      simp only [slt, List.set_cons_succ, List.map_cons, List.sum_cons] at this ⊢
      omega
theorem slt_push {h : MH} {c : HC} : slt (h ++ [c]) = slt h + csz c := by simp [slt]
theorem fI_set {l : List Int} {j : Int} {x : Int} (h0 : 0 ≤ j) (h1 : j < l.length) (h2 : j ≤ 2147483647) : upd (fI l) (Int32.ofInt j).toNatClampNeg (Int32.ofInt x) = fI (l.set j.toNat x) := by
  rw [n_cl h0 h2]
  funext q
  unfold upd fI
  by_cases hq : q = j.toNat
  · subst hq
    rw [if_pos rfl, List.getD_eq_getElem?_getD, List.getElem?_set_self (by omega)]
    rfl
  · rw [if_neg hq, List.getD_eq_getElem?_getD, List.getD_eq_getElem?_getD, List.getElem?_set_ne (fun z => hq z.symm)]
theorem fL_set {l : List Int} {j : Int} {x : Int} (h0 : 0 ≤ j) (h1 : j < l.length) (h2 : j ≤ 2147483647) : vp_updL (fL l) (Int32.ofInt j).toNatClampNeg (Int64.ofInt x) = fL (l.set j.toNat x) := by
  rw [n_cl h0 h2]
  funext q
  unfold vp_updL fL
  by_cases hq : q = j.toNat
  · subst hq
    rw [if_pos rfl, List.getD_eq_getElem?_getD, List.getElem?_set_self (by omega)]
    rfl
  · rw [if_neg hq, List.getD_eq_getElem?_getD, List.getD_eq_getElem?_getD, List.getElem?_set_ne (fun z => hq z.symm)]
section STO
variable {p : Program} {l : Launch} {e : Env} {R : Room} {s : State} {m : MethodId} {args : Array Value} {below : List Frame} {meth : Method} {c : Code} {H : Heap} {locs : List Loc} {cells slots : Nat} {Q : State → Prop}
variable {cc : ByteArray} {pc : Nat} {ls : Array Slot} {rest : List Value} {D : va_G} {tys : List (ClassId × FieldType)} {H0 : Heap}
variable {K : Nat → ClassId} {B : Nat} {sd : Nat → Nat} {h : MH} {q : Nat} {li : List Int} {j x : Int}
theorem so_iast (hexec : p.tables.exec = Jvm.exec) (hb : c.code = cc) (hK : va_K D CL tys s) (t0 : Nat) (ht : tys[t0]? = some (K 0, .int)) (hP : va_P D CL (wd K B sd h) H) (hS : va_S (AB B) H0 H locs) (hq : h[q]? = some (.inr (0, li))) (h0 : 0 ≤ j) (h1 : j < li.length) (h2 : j ≤ 2147483647) (hdg : decode cc pc = .ok (.iastore, 1))
    (kk : ∀ (H1 : Heap) (locs1 : List Loc), va_P D CL (wd K B sd (h.set q (.inr (0, li.set j.toNat x)))) H1 → H1.size = H.size → va_S (AB B) H0 H1 locs1 → W p l e R s m args below meth c H1 locs1 cells slots Q (F0 m (pc + 1) ls rest)) : W p l e R s m args below meth c H locs cells slots Q (F0 m pc ls (.int (Int32.ofInt x) :: .int (Int32.ofInt j) :: .ref (B + q) :: rest)) := by
  have ha := wd_at (K := K) (B := B) (sd := sd) hq
  have hD := wd_D (K := K) (B := B) (sd := sd) (h := h)
  have ha : (wd K B sd h)[q]? = some (B + q, .inl (K 0, li.length, .inl (fI li))) := ha
  refine W.iast hexec hb (hP q _ ha) ((hK.2 t0 _ ht).1 li.length (fun j => .int (fI li j))) (fun q => by cases q) (by show ¬ (_ < 0 ∨ (arrV _ _ _).slots.size ≤ _); rw [arrV_size]; exact n_in h0 h2 h1) rfl rfl hdg fun H1 e z oq => ?_
  refine kk H1 _ ?_ z (hS.put z oq (Nat.le_add_right _ _))
  have hP1 := hP.set (H1 := H1) hD ha (e := .inl (K 0, li.length, .inl (upd (fI li) (Int32.ofInt j).toNatClampNeg (Int32.ofInt x)))) ?_ oq
  · rw [fI_set h0 h1 h2] at hP1
    have hw := wd_set (K := K) (B := B) (sd := sd) (c := .inr (0, li.set j.toNat x)) hq
    have hw : (wd K B sd h).set q (B + q, .inl (K 0, (li.set j.toNat x).length, .inl (fI (li.set j.toNat x)))) = wd K B sd (h.set q (.inr (0, li.set j.toNat x))) := hw
    rw [List.length_set] at hw
    rw [hw] at hP1
    exact hP1
  · show H1[B + q]? = some (vp_cell _ _)
    rw [e, vp_cell_i, vp_cell_i, arrV_store]
    congr 2
    funext z
    by_cases hz : z = (Int32.ofInt j).toNatClampNeg
    · subst hz
      simp [updV, upd]
    · simp [updV, upd, hz]
theorem so_zast (hexec : p.tables.exec = Jvm.exec) (hb : c.code = cc) (hK : va_K D CL tys s) (t0 : Nat) (ht : tys[t0]? = some (K 2, .boolean)) (hP : va_P D CL (wd K B sd h) H) (hS : va_S (AB B) H0 H locs) (hq : h[q]? = some (.inr (2, li))) (h0 : 0 ≤ j) (h1 : j < li.length) (h2 : j ≤ 2147483647) (hx : x = 0 ∨ x = 1) (hdg : decode cc pc = .ok (.bastore, 1))
    (kk : ∀ (H1 : Heap) (locs1 : List Loc), va_P D CL (wd K B sd (h.set q (.inr (2, li.set j.toNat x)))) H1 → H1.size = H.size → va_S (AB B) H0 H1 locs1 → W p l e R s m args below meth c H1 locs1 cells slots Q (F0 m (pc + 1) ls rest)) : W p l e R s m args below meth c H locs cells slots Q (F0 m pc ls (.int (Int32.ofInt x) :: .int (Int32.ofInt j) :: .ref (B + q) :: rest)) := by
  have ha := wd_at (K := K) (B := B) (sd := sd) hq
  have hD := wd_D (K := K) (B := B) (sd := sd) (h := h)
  have ha : (wd K B sd h)[q]? = some (B + q, .inl (K 2, li.length, .inl (fI li))) := ha
  have hnx : narrow .boolean (.int (Int32.ofInt x)) = .int (Int32.ofInt x) := by rcases hx with rfl | rfl <;> decide
  refine W.zast hexec hb (hP q _ ha) ((hK.2 t0 _ ht).1 li.length (fun j => .int (fI li j))) (fun q => by cases q) (by show ¬ (_ < 0 ∨ (arrV _ _ _).slots.size ≤ _); rw [arrV_size]; exact n_in h0 h2 h1) rfl rfl hdg fun H1 e z oq => ?_
  rw [hnx] at e
  refine kk H1 _ ?_ z (hS.put z oq (Nat.le_add_right _ _))
  have hP1 := hP.set (H1 := H1) hD ha (e := .inl (K 2, li.length, .inl (upd (fI li) (Int32.ofInt j).toNatClampNeg (Int32.ofInt x)))) ?_ oq
  · rw [fI_set h0 h1 h2] at hP1
    have hw := wd_set (K := K) (B := B) (sd := sd) (c := .inr (2, li.set j.toNat x)) hq
    have hw : (wd K B sd h).set q (B + q, .inl (K 2, (li.set j.toNat x).length, .inl (fI (li.set j.toNat x)))) = wd K B sd (h.set q (.inr (2, li.set j.toNat x))) := hw
    rw [List.length_set] at hw
    rw [hw] at hP1
    exact hP1
  · show H1[B + q]? = some (vp_cell _ _)
    rw [e, vp_cell_i, vp_cell_i, arrV_store]
    congr 2
    funext z
    by_cases hz : z = (Int32.ofInt j).toNatClampNeg
    · subst hz
      simp [updV, upd]
    · simp [updV, upd, hz]
theorem so_last (hexec : p.tables.exec = Jvm.exec) (hb : c.code = cc) (hK : va_K D CL tys s) (t0 : Nat) (ht : tys[t0]? = some (K 1, .long)) (hP : va_P D CL (wd K B sd h) H) (hS : va_S (AB B) H0 H locs) (hq : h[q]? = some (.inr (1, li))) (h0 : 0 ≤ j) (h1 : j < li.length) (h2 : j ≤ 2147483647) (hdg : decode cc pc = .ok (.lastore, 1))
    (kk : ∀ (H1 : Heap) (locs1 : List Loc), va_P D CL (wd K B sd (h.set q (.inr (1, li.set j.toNat x)))) H1 → H1.size = H.size → va_S (AB B) H0 H1 locs1 → W p l e R s m args below meth c H1 locs1 cells slots Q (F0 m (pc + 1) ls rest)) : W p l e R s m args below meth c H locs cells slots Q (F0 m pc ls (.long (Int64.ofInt x) :: .int (Int32.ofInt j) :: .ref (B + q) :: rest)) := by
  have ha := wd_at (K := K) (B := B) (sd := sd) hq
  have hD := wd_D (K := K) (B := B) (sd := sd) (h := h)
  have ha : (wd K B sd h)[q]? = some (B + q, .inl (K 1, li.length, .inr (.inl (fL li)))) := ha
  refine W.last hexec hb (hP q _ ha) ((hK.2 t0 _ ht).1 li.length (fun j => .long (fL li j))) (fun q => by cases q) (by show ¬ (_ < 0 ∨ (arrV _ _ _).slots.size ≤ _); rw [arrV_size]; exact n_in h0 h2 h1) rfl rfl hdg fun H1 e z oq => ?_
  refine kk H1 _ ?_ z (hS.put z oq (Nat.le_add_right _ _))
  have hP1 := hP.set (H1 := H1) hD ha (e := .inl (K 1, li.length, .inr (.inl (vp_updL (fL li) (Int32.ofInt j).toNatClampNeg (Int64.ofInt x))))) ?_ oq
  · rw [fL_set h0 h1 h2] at hP1
    have hw := wd_set (K := K) (B := B) (sd := sd) (c := .inr (1, li.set j.toNat x)) hq
    have hw : (wd K B sd h).set q (B + q, .inl (K 1, (li.set j.toNat x).length, .inr (.inl (fL (li.set j.toNat x))))) = wd K B sd (h.set q (.inr (1, li.set j.toNat x))) := hw
    rw [List.length_set] at hw
    rw [hw] at hP1
    exact hP1
  · show H1[B + q]? = some (vp_cell _ _)
    rw [e, vp_cell_l, vp_cell_l, arrV_store]
    congr 2
    funext z
    by_cases hz : z = (Int32.ofInt j).toNatClampNeg
    · subst hz
      simp [updV, vp_updL]
    · simp [updV, vp_updL, hz]
theorem so_putA {ci : Nat} {fs : List MV} {v : MV} {k : Nat} {H1 : Heap} {C : String} {T : u_T} {N : Nat} {cell : Cell} {own : String} {Ts : List Jvm.Cond} (hts : ∀ w ∈ Ts, w.before args s = true) (hin : ∀ w ∈ u_ws C T N, w ∈ Ts) (ty0 : Nat → FieldType) (hty : ∀ k, k < N → parseFieldDescriptor (T k).2.2.1 = some (ty0 k)) (hnm : ∀ a, a < N → ∀ b, b < N → a ≠ b → (T a).2.1 ≠ (T b).2.1) (hK : va_K D CL tys s) (hP : va_P D CL (wd K B sd h) H) (hc : CL[ci]? = some (C, T, N)) (hq : h[q]? = some (.inl (ci, fs))) (hk : k < N) (hl : k < fs.length)
    (q2 : cell.cls = D.1 ci) (q3 : cell.vm = .none) (q4 : ∀ k, k < N → cell.slots[D.2 ci k]? = some (vp_V (fs.map (cv B sd)) k)) (e1 : H1[B + q]? = some (cell.setSlot (D.2 ci k) (cv B sd v))) (oq : ∀ z : Nat, z ≠ B + q → H1[z]? = H[z]?) : va_P D CL (wd K B sd (h.set q (.inl (ci, fs.set k v)))) H1 := by
  have hap := va_apart (own := own) hts hin ty0 hty hnm hK hc
  have ha : (wd K B sd h)[q]? = some (B + q, .inr (ci, fs.map (cv B sd))) := wd_at hq
  have hw := wd_set (K := K) (B := B) (sd := sd) (c := .inl (ci, fs.set k v)) hq
  have hw : (wd K B sd h).set q (B + q, .inr (ci, (fs.set k v).map (cv B sd))) = wd K B sd (h.set q (.inl (ci, fs.set k v))) := hw
  rw [← hw]
  refine hP.set wd_D ha ⟨_, hc, ?_⟩ oq
  refine t_OB.to (V := updV (vp_V (fs.map (cv B sd))) k (cv B sd v)) ⟨_, e1, q2, q3, t_set q4 hap hk _⟩ (fun j _ => ?_)
  rw [vp_updV_set (by rw [List.length_map]; exact hl), List.map_set]
theorem so_put {ci ix : Nat} {fs : List MV} {v : MV} {k : Nat} {C : String} {T : u_T} {N : Nat} {own : String} {Ts : List Jvm.Cond} (hexec : p.tables.exec = Jvm.exec) (hb : c.code = cc) (hts : ∀ w ∈ Ts, w.before args s = true) (hin : ∀ w ∈ u_ws C T N, w ∈ Ts) (ty0 : Nat → FieldType) (hty : ∀ k, k < N → parseFieldDescriptor (T k).2.2.1 = some (ty0 k)) (hnm : ∀ a, a < N → ∀ b, b < N → a ≠ b → (T a).2.1 ≠ (T b).2.1) (hown : s.vm.findClass own = some m.cls) (hK : va_K D CL tys s) (hP : va_P D CL (wd K B sd h) H) (hS : va_S (AB B) H0 H locs) (hc : CL[ci]? = some (C, T, N)) (hq : h[q]? = some (.inl (ci, fs))) (hk : k < N) (hl : k < fs.length)
    (hlink : (Jvm.Cond.fieldLink own ix (T k).1 (T k).2.1 (T k).2.2.1).before args s = true) (hfin : (T k).2.2.2 = false ∨ (meth.name = "<init>" ∧ (T k).1 = own)) (hn : narrow (ty0 k) (cv B sd v) = cv B sd v) (hfit : fits (ty0 k) (cv B sd v) = true) (hdg : decode cc pc = .ok (.putfield ix, 3))
    (kk : ∀ (H1 : Heap) (locs1 : List Loc), va_P D CL (wd K B sd (h.set q (.inl (ci, fs.set k v)))) H1 → H1.size = H.size → va_S (AB B) H0 H1 locs1 → W p l e R s m args below meth c H1 locs1 cells slots Q (F0 m (pc + 3) ls rest)) : W p l e R s m args below meth c H locs cells slots Q (F0 m pc ls (cv B sd v :: .ref (B + q) :: rest)) := by
  have ha : (wd K B sd h)[q]? = some (B + q, .inr (ci, fs.map (cv B sd))) := wd_at hq
  obtain ⟨r, h1, cell, q1, q2, q3, q4⟩ := hP q _ ha
  have hr : r = (C, T, N) := Option.some.inj (h1.symm.trans hc)
  subst hr
  obtain ⟨hS', hfc, kC, hkC, hkind⟩ := hK.1 ci _ hc
  obtain ⟨cf, kf, fi, f, hi, hsl⟩ := hS' k hk
  have hst := (u_facts hfc hkC (u_lays hts hin hk) hi).1
  by_cases hf : (T k).2.2.2 = false
  · have hlay := hts _ (hin _ (u_in_lay hk))
    unfold u_lay at hlay
    rw [if_neg (by rw [hf]; decide)] at hlay
    have h6 := u_store hfc hkC hkind hlay hi (hty k hk) hn hfit
    refine W.putK hexec hb (f := f) ⟨hown, hlink, ⟨_, _, _, hi⟩, hst⟩ (by rw [q2]; exact h6) q1 q3 (by rw [hsl]; exact k2_hasslot (q4 k hk)) rfl rfl hdg fun H' e1 e2 e3 => ?_
    rw [hsl] at e1 ⊢
    exact kk H' _ (so_putA (own := own) hts hin ty0 hty hnm hK hP hc hq hk hl q2 q3 q4 e1 e3) e2 (hS.put e2 e3 (Nat.le_add_right _ _))
  · have hf2 : (T k).2.2.2 = true := by simpa using hf
    obtain ⟨hin2, hdecl⟩ : meth.name = "<init>" ∧ (T k).1 = own := by
      rcases hfin with z | z
      · exact absurd z hf
      · exact z
    have hlay := hts _ (hin _ (u_in_lay hk))
    unfold u_lay at hlay
    rw [if_pos hf2] at hlay
    have hcf : m.cls = cf := by
      obtain ⟨_, _, c', _, _, _, -, -, hf', -, -, -, hown2, -⟩ := Cond.laysFinal_spec hlay
      have e1 : c' = cf := by have := hi.symm.trans hf'; simp at this; exact this.1.symm
      rw [hdecl] at hown2
      rw [← e1]; exact Option.some.inj (hown.symm.trans hown2)
    have h6 := u_fits hfc hkC hkind (Or.inr hlay) hi (hty k hk) hn hfit
    refine W.putFinK hexec hb hown hlink hi hst hcf hin2 (by rw [q2]; exact h6) q1 q3 (by rw [hsl]; exact k2_hasslot (q4 k hk)) rfl rfl hdg fun H' e1 e2 e3 => ?_
    rw [hsl] at e1 ⊢
    exact kk H' _ (so_putA (own := own) hts hin ty0 hty hnm hK hP hc hq hk hl q2 q3 q4 e1 e3) e2 (hS.put e2 e3 (Nat.le_add_right _ _))
theorem so_newP {H1 : Heap} {n : Nat} {cl : HC} (hP : va_P D CL (wd K B sd h) H) (hz : H.size = B + h.length) (o1 : ∀ z : Nat, z < H.size → H1[z]? = H[z]?) (he : va_at D CL (B + h.length, ce K B sd cl) H1) : va_P D CL (wd K B sd (h ++ [cl])) H1 := by
  rw [wd_push]
  refine (hP.kept (fun k x hx => o1 x.1 ((hP k x hx).lt))).app (fun k x hx => ?_)
  have hz1 : k < 1 := (List.getElem?_eq_some_iff.mp hx).1
  rw [show k = 0 by omega] at hx
  cases hx
  exact he
theorem so_new {a ix : Nat} {C : String} {T : u_T} {N : Nat} {own : String} {Ts : List Jvm.Cond} (hexec : p.tables.exec = Jvm.exec) (hb : c.code = cc) (hts : ∀ w ∈ Ts, w.before args s = true) (hin : ∀ w ∈ u_ws C T N, w ∈ Ts) (ty0 : Nat → FieldType) (hty : ∀ k, k < N → parseFieldDescriptor (T k).2.2.1 = some (ty0 k)) (hown : s.vm.findClass own = some m.cls) (hcl : (Jvm.Cond.classLink own ix C).before args s = true) (hinst : (Jvm.Cond.instantiable C N).before args s = true) (hini : (Jvm.Cond.initialized C).before args s = true)
    (hK : va_K D CL tys s) (hP : va_P D CL (wd K B sd h) H) (hz : H.size = B + h.length) (hS : va_S (AB B) H0 H locs) (hc : CL[a]? = some (C, T, N)) (hfs : ∀ j, j < N → defaultValue (ty0 j) = vp_V ((dfC a).map (cv B sd)) j) (hcells : cells + 1 ≤ R.cells) (hslots : slots + N ≤ R.slots) (hdg : decode cc pc = .ok (.new ix, 3))
    (kk : ∀ (H1 : Heap), va_P D CL (wd K B sd (h ++ [.inl (a, dfC a)])) H1 → H1.size = H.size + 1 → va_S (AB B) H0 H1 locs → W p l e R s m args below meth c H1 locs (cells + 1) (slots + N) Q (F0 m (pc + 3) ls (.ref (B + h.length) :: rest))) : W p l e R s m args below meth c H locs cells slots Q (F0 m pc ls rest) := by
  have hKn := hK.1 a _ hc
  refine W.newcK hexec hb hown hcl hinst hini rfl hdg hcells hslots hKn.2.1 hz fun H1 kC hkC e1 z1 o1 => ?_
  rw [← hz] at o1
  refine kk H1 (so_newP (n := 0) hP hz o1 ?_) (by rw [z1, hz]) ⟨Nat.le_trans hS.1 (by omega), fun x h1 h2 => (o1 x (Nat.lt_of_lt_of_le h1 hS.1)).trans (hS.2.1 x h1 h2), hS.2.2⟩
  exact ⟨_, hc, (u_born ty0 hts hin hKn hkC e1 hty).to hfs⟩
theorem so_newa {t : ArrayType} {n : Int} {ty : FieldType} {cA : ClassId} {a0 : vp_A} {cl : HC} (hexec : p.tables.exec = Jvm.exec) (hb : c.code = cc) (harr : (Jvm.Cond.arrayClass (newarray.typeOf t)).before args s = true) (hty : newarray.typeOf t = ty) (hfind : s.vm.findClass ("[" ++ ty.toString) = some cA) (hP : va_P D CL (wd K B sd h) H) (hz : H.size = B + h.length) (hS : va_S (AB B) H0 H locs)
    (hce : ce K B sd cl = .inl (cA, a0)) (ha0 : vp_cell cA a0 = arrV cA n.toNat (fun _ => defaultValue ty)) (h0 : 0 ≤ n) (h1 : n ≤ 1000000) (hcb : componentBytes ty ≤ 8) (hcells : cells + 1 ≤ R.cells) (hslots : slots + n.toNat ≤ R.slots) (hdg : decode cc pc = .ok (.newarray t, 2))
    (kk : ∀ (H1 : Heap), va_P D CL (wd K B sd (h ++ [cl])) H1 → H1.size = H.size + 1 → va_S (AB B) H0 H1 locs → W p l e R s m args below meth c H1 locs (cells + 1) (slots + n.toNat) Q (F0 m (pc + 2) ls (.ref (B + h.length) :: rest))) : W p l e R s m args below meth c H locs cells slots Q (F0 m pc ls (.int (Int32.ofInt n) :: rest)) := by
  subst hty
  have hN : (Int32.ofInt n).toNatClampNeg = n.toNat := n_cl h0 (by omega)
  refine va_newaK hexec hb harr rfl hdg rfl (n_neg0 h0 (by omega)) hN ?_ hcells hslots hz fun H1 cA' e1 z1 o1 hAr hNm => ?_
  · have : n.toNat ≤ 1000000 := by omega
    calc n.toNat * componentBytes (newarray.typeOf t) ≤ 1000000 * 8 := Nat.mul_le_mul this hcb
      _ ≤ 536870912 := by decide
  · have hcA : cA' = cA := Option.some.inj (hNm.symm.trans hfind)
    subst hcA
    rw [← hz] at o1
    refine kk H1 (so_newP (n := 0) hP hz o1 ?_) (by rw [z1, hz]) ⟨Nat.le_trans hS.1 (by omega), fun x h1 h2 => (o1 x (Nat.lt_of_lt_of_le h1 hS.1)).trans (hS.2.1 x h1 h2), hS.2.2⟩
    rw [hce]
    show H1[B + h.length]? = some (vp_cell _ _)
    rw [ha0]
    exact e1
end STO
end
section
-- the tables against the bytes
def lenI : Instr → Nat
  | .bipush _ => 2
  | .sipush _ => 3
  | .ldc _ => 2
  | .ldc_w _ => 3
  | .ldc2_w _ => 3
  | .iload _ => 2
  | .lload _ => 2
  | .aload _ => 2
  | .istore _ => 2
  | .lstore _ => 2
  | .astore _ => 2
  | .iinc _ _ => 3
  | .goto _ => 3
  | .ifCond _ _ => 3
  | .if_icmp _ _ => 3
  | .ifnull _ => 3
  | .ifnonnull _ => 3
  | .getfield _ => 3
  | .putfield _ => 3
  | .getstatic _ => 3
  | .invokestatic _ => 3
  | .invokevirtual _ => 3
  | .invokespecial _ => 3
  | .newarray _ => 2
  | .new _ => 3
  | _ => 1
def isSw : Instr → Bool
  | .tableswitch _ _ _ _ => true
  | .lookupswitch _ _ => true
  | _ => false
def ptOK (m a b : Nat) (c : Int) : Bool := match CL[a]? with
  | some (_, T, _) => (match tyC a b with
    | .int => c == 0
    | .boolean => c == 1
    | .object _ => c == 2
    | .array _ => c == 2
    | _ => false) && ((T b).2.2.2 == false || ((yM m).name == "<init>" && (T b).1 == cnm (clsM m)))
  | none => false
def eokX (m : Nat) (pc : Nat) (I : Instr) (a b : Nat) (c : Int) : Bool := match I with
  | .bipush n => decide (-128 ≤ n ∧ n ≤ 127)
  | .sipush n => decide (-32768 ≤ n ∧ n ≤ 32767)
  | .goto off => decide ((pc : Int) + off = (a : Int))
  | .ifnull off => decide ((pc : Int) + off = (a : Int))
  | .ifnonnull off => decide ((pc : Int) + off = (a : Int))
  | .ifCond _ off => decide ((pc : Int) + off = (a : Int))
  | .if_icmp _ off => decide ((pc : Int) + off = (a : Int))
  | .getfield ix => decide ((clsM m, ix, a, b) ∈ FT)
  | .putfield ix => decide ((clsM m, ix, a, b) ∈ FT) && ptOK m a b c
  | .getstatic ix => decide ((clsM m, ix, a) ∈ ST)
  | .new ix => decide ((clsM m, ix, a) ∈ NT)
  | .ldc ix => decide ((clsM m, ix, c) ∈ CT)
  | .ldc_w ix => decide ((clsM m, ix, c) ∈ CT)
  | .ldc2_w ix => decide ((clsM m, ix, c) ∈ LT)
  | .invokestatic ix => decide ((clsM m, ix, b, a) ∈ KT) && (b == 0 || b == 3)
  | .invokevirtual ix => decide ((clsM m, ix, b, a) ∈ KT) && b == 1
  | .invokespecial ix => (b == 5 && decide ((clsM m, ix) ∈ OT)) || (decide ((clsM m, ix, b, a) ∈ KT) && (b == 2 || b == 4))
  | _ => true
def eok (m : Nat) (q : Nat × EN) : Bool := match q with
  | (pc, I, np, a, b, c) => decide (decode (byM m) pc = .ok (I, np - pc)) && decide (pc ≤ np) && (isSw I || decide (np = pc + lenI I)) && eokX m pc I a b c
theorem ek_0_0 : ∀ q ∈ tb_Chances_part_0, eok 0 q = true := by decide +kernel
theorem ek_0 : ∀ q ∈ tb_Chances_part, eok 0 q = true := ek_0_0
theorem ek_1_0 : ∀ q ∈ tb_Chances_commonDivisor_0, eok 1 q = true := by decide +kernel
theorem ek_1 : ∀ q ∈ tb_Chances_commonDivisor, eok 1 q = true := ek_1_0
theorem ek_2_0 : ∀ q ∈ tb_Chances_mixed_0, eok 2 q = true := by decide +kernel
theorem ek_2 : ∀ q ∈ tb_Chances_mixed, eok 2 q = true := ek_2_0
theorem ek_3_0 : ∀ q ∈ tb_Chances_mixedInOrder_0, eok 3 q = true := by decide +kernel
theorem ek_3_1 : ∀ q ∈ tb_Chances_mixedInOrder_1, eok 3 q = true := by decide +kernel
theorem ek_3 : ∀ q ∈ tb_Chances_mixedInOrder, eok 3 q = true := List.forall_mem_append.mpr ⟨ek_3_0, ek_3_1⟩
theorem ek_4_0 : ∀ q ∈ tb_Chances_isTheFirst_0, eok 4 q = true := by decide +kernel
theorem ek_4 : ∀ q ∈ tb_Chances_isTheFirst, eok 4 q = true := ek_4_0
theorem ek_5_0 : ∀ q ∈ tb_Chances_winsRace_0, eok 5 q = true := by decide +kernel
theorem ek_5 : ∀ q ∈ tb_Chances_winsRace, eok 5 q = true := ek_5_0
theorem ek_6_0 : ∀ q ∈ tb_Chances_power_0, eok 6 q = true := by decide +kernel
theorem ek_6 : ∀ q ∈ tb_Chances_power, eok 6 q = true := ek_6_0
theorem ek_7_0 : ∀ q ∈ tb_Defence_init_0, eok 7 q = true := by decide +kernel
theorem ek_7 : ∀ q ∈ tb_Defence_init, eok 7 q = true := ek_7_0
theorem ek_8_0 : ∀ q ∈ tb_Defence_letIn_0, eok 8 q = true := by decide +kernel
theorem ek_8 : ∀ q ∈ tb_Defence_letIn, eok 8 q = true := ek_8_0
theorem ek_9_0 : ∀ q ∈ tb_Defence_slides_0, eok 9 q = true := by decide +kernel
theorem ek_9 : ∀ q ∈ tb_Defence_slides, eok 9 q = true := ek_9_0
theorem ek_10_0 : ∀ q ∈ tb_Defence_place_0, eok 10 q = true := by decide +kernel
theorem ek_10_1 : ∀ q ∈ tb_Defence_place_1, eok 10 q = true := by decide +kernel
theorem ek_10 : ∀ q ∈ tb_Defence_place, eok 10 q = true := List.forall_mem_append.mpr ⟨ek_10_0, ek_10_1⟩
theorem ek_11_0 : ∀ q ∈ tb_Defence_shotsPastOthers_0, eok 11 q = true := by decide +kernel
theorem ek_11 : ∀ q ∈ tb_Defence_shotsPastOthers, eok 11 q = true := ek_11_0
theorem ek_12_0 : ∀ q ∈ tb_Defence_tryKeeper_0, eok 12 q = true := by decide +kernel
theorem ek_12 : ∀ q ∈ tb_Defence_tryKeeper, eok 12 q = true := ek_12_0
theorem ek_13_0 : ∀ q ∈ tb_Evening_init_0, eok 13 q = true := by decide +kernel
theorem ek_13 : ∀ q ∈ tb_Evening_init, eok 13 q = true := ek_13_0
theorem ek_14_0 : ∀ q ∈ tb_Evening_table_0, eok 14 q = true := by decide +kernel
theorem ek_14 : ∀ q ∈ tb_Evening_table, eok 14 q = true := ek_14_0
theorem ek_15_0 : ∀ q ∈ tb_Evening_acts_0, eok 15 q = true := by decide +kernel
theorem ek_15 : ∀ q ∈ tb_Evening_acts, eok 15 q = true := ek_15_0
theorem ek_16_0 : ∀ q ∈ tb_Evening_stoppedAt_0, eok 16 q = true := by decide +kernel
theorem ek_16 : ∀ q ∈ tb_Evening_stoppedAt, eok 16 q = true := ek_16_0
theorem ek_17_0 : ∀ q ∈ tb_Evening_reason_0, eok 17 q = true := by decide +kernel
theorem ek_17 : ∀ q ∈ tb_Evening_reason, eok 17 q = true := ek_17_0
theorem ek_18_0 : ∀ q ∈ tb_Evening_firstGoal_0, eok 18 q = true := by decide +kernel
theorem ek_18 : ∀ q ∈ tb_Evening_firstGoal, eok 18 q = true := ek_18_0
theorem ek_19_0 : ∀ q ∈ tb_Evening_play_0, eok 19 q = true := by decide +kernel
theorem ek_19_1 : ∀ q ∈ tb_Evening_play_1, eok 19 q = true := by decide +kernel
theorem ek_19 : ∀ q ∈ tb_Evening_play, eok 19 q = true := List.forall_mem_append.mpr ⟨ek_19_0, ek_19_1⟩
theorem ek_20_0 : ∀ q ∈ tb_Grasps_isRow_0, eok 20 q = true := by decide +kernel
theorem ek_20 : ∀ q ∈ tb_Grasps_isRow, eok 20 q = true := ek_20_0
theorem ek_21_0 : ∀ q ∈ tb_Grasps_fewest_0, eok 21 q = true := by decide +kernel
theorem ek_21 : ∀ q ∈ tb_Grasps_fewest, eok 21 q = true := ek_21_0
theorem ek_22_0 : ∀ q ∈ tb_Grasps_needed_0, eok 22 q = true := by decide +kernel
theorem ek_22 : ∀ q ∈ tb_Grasps_needed, eok 22 q = true := ek_22_0
theorem ek_23_0 : ∀ q ∈ tb_Grasps_latest_0, eok 23 q = true := by decide +kernel
theorem ek_23 : ∀ q ∈ tb_Grasps_latest, eok 23 q = true := ek_23_0
theorem ek_24_0 : ∀ q ∈ tb_Grasps_nextNeed_0, eok 24 q = true := by decide +kernel
theorem ek_24 : ∀ q ∈ tb_Grasps_nextNeed, eok 24 q = true := ek_24_0
theorem ek_25_0 : ∀ q ∈ tb_Image_init_0, eok 25 q = true := by decide +kernel
theorem ek_25 : ∀ q ∈ tb_Image_init, eok 25 q = true := ek_25_0
theorem ek_26_0 : ∀ q ∈ tb_Image_keep_0, eok 26 q = true := by decide +kernel
theorem ek_26 : ∀ q ∈ tb_Image_keep, eok 26 q = true := ek_26_0
theorem ek_27_0 : ∀ q ∈ tb_Image_giveBack_0, eok 27 q = true := by decide +kernel
theorem ek_27 : ∀ q ∈ tb_Image_giveBack, eok 27 q = true := ek_27_0
theorem ek_28_0 : ∀ q ∈ tb_Pad_init_0, eok 28 q = true := by decide +kernel
theorem ek_28 : ∀ q ∈ tb_Pad_init, eok 28 q = true := ek_28_0
theorem ek_29_0 : ∀ q ∈ tb_Pad_size_0, eok 29 q = true := by decide +kernel
theorem ek_29 : ∀ q ∈ tb_Pad_size, eok 29 q = true := ek_29_0
theorem ek_30_0 : ∀ q ∈ tb_Pad_add_0, eok 30 q = true := by decide +kernel
theorem ek_30 : ∀ q ∈ tb_Pad_add, eok 30 q = true := ek_30_0
theorem ek_31_0 : ∀ q ∈ tb_Pad_clear_0, eok 31 q = true := by decide +kernel
theorem ek_31 : ∀ q ∈ tb_Pad_clear, eok 31 q = true := ek_31_0
theorem ek_32_0 : ∀ q ∈ tb_Pad_rewind_0, eok 32 q = true := by decide +kernel
theorem ek_32 : ∀ q ∈ tb_Pad_rewind, eok 32 q = true := ek_32_0
theorem ek_33_0 : ∀ q ∈ tb_Pad_isReadOut_0, eok 33 q = true := by decide +kernel
theorem ek_33 : ∀ q ∈ tb_Pad_isReadOut, eok 33 q = true := ek_33_0
theorem ek_34_0 : ∀ q ∈ tb_Pad_kind_0, eok 34 q = true := by decide +kernel
theorem ek_34 : ∀ q ∈ tb_Pad_kind, eok 34 q = true := ek_34_0
theorem ek_35_0 : ∀ q ∈ tb_Pad_rod_0, eok 35 q = true := by decide +kernel
theorem ek_35 : ∀ q ∈ tb_Pad_rod, eok 35 q = true := ek_35_0
theorem ek_36_0 : ∀ q ∈ tb_Pad_number_0, eok 36 q = true := by decide +kernel
theorem ek_36 : ∀ q ∈ tb_Pad_number, eok 36 q = true := ek_36_0
theorem ek_37_0 : ∀ q ∈ tb_Pad_faultPlace_0, eok 37 q = true := by decide +kernel
theorem ek_37 : ∀ q ∈ tb_Pad_faultPlace, eok 37 q = true := ek_37_0
theorem ek_38_0 : ∀ q ∈ tb_Pad_readAct_0, eok 38 q = true := by decide +kernel
theorem ek_38_1 : ∀ q ∈ tb_Pad_readAct_1, eok 38 q = true := by decide +kernel
theorem ek_38 : ∀ q ∈ tb_Pad_readAct, eok 38 q = true := List.forall_mem_append.mpr ⟨ek_38_0, ek_38_1⟩
theorem ek_39_0 : ∀ q ∈ tb_Pad_takesHandling_0, eok 39 q = true := by decide +kernel
theorem ek_39 : ∀ q ∈ tb_Pad_takesHandling, eok 39 q = true := ek_39_0
theorem ek_40_0 : ∀ q ∈ tb_Pad_takesWay_0, eok 40 q = true := by decide +kernel
theorem ek_40 : ∀ q ∈ tb_Pad_takesWay, eok 40 q = true := ek_40_0
theorem ek_41_0 : ∀ q ∈ tb_Pad_takes_0, eok 41 q = true := by decide +kernel
theorem ek_41 : ∀ q ∈ tb_Pad_takes, eok 41 q = true := ek_41_0
theorem ek_42_0 : ∀ q ∈ tb_Pad_takesRod_0, eok 42 q = true := by decide +kernel
theorem ek_42 : ∀ q ∈ tb_Pad_takesRod, eok 42 q = true := ek_42_0
theorem ek_43_0 : ∀ q ∈ tb_Pad_takesDigit_0, eok 43 q = true := by decide +kernel
theorem ek_43 : ∀ q ∈ tb_Pad_takesDigit, eok 43 q = true := ek_43_0
theorem ek_44_0 : ∀ q ∈ tb_Pad_nextSign_0, eok 44 q = true := by decide +kernel
theorem ek_44 : ∀ q ∈ tb_Pad_nextSign, eok 44 q = true := ek_44_0
theorem ek_45_0 : ∀ q ∈ tb_Passes_init_0, eok 45 q = true := by decide +kernel
theorem ek_45 : ∀ q ∈ tb_Passes_init, eok 45 q = true := ek_45_0
theorem ek_46_0 : ∀ q ∈ tb_Passes_from_0, eok 46 q = true := by decide +kernel
theorem ek_46 : ∀ q ∈ tb_Passes_from, eok 46 q = true := ek_46_0
theorem ek_47_0 : ∀ q ∈ tb_Passes_countTo_0, eok 47 q = true := by decide +kernel
theorem ek_47 : ∀ q ∈ tb_Passes_countTo, eok 47 q = true := ek_47_0
theorem ek_48_0 : ∀ q ∈ tb_Passes_leads_0, eok 48 q = true := by decide +kernel
theorem ek_48 : ∀ q ∈ tb_Passes_leads, eok 48 q = true := ek_48_0
theorem ek_49_0 : ∀ q ∈ tb_Passes_firstFrom_0, eok 49 q = true := by decide +kernel
theorem ek_49 : ∀ q ∈ tb_Passes_firstFrom, eok 49 q = true := ek_49_0
theorem ek_50_0 : ∀ q ∈ tb_Passes_receiver_0, eok 50 q = true := by decide +kernel
theorem ek_50 : ∀ q ∈ tb_Passes_receiver, eok 50 q = true := ek_50_0
theorem ek_51_0 : ∀ q ∈ tb_Passes_ownOnly_0, eok 51 q = true := by decide +kernel
theorem ek_51 : ∀ q ∈ tb_Passes_ownOnly, eok 51 q = true := ek_51_0
theorem ek_52_0 : ∀ q ∈ tb_Rods_isRod_0, eok 52 q = true := by decide +kernel
theorem ek_52 : ∀ q ∈ tb_Rods_isRod, eok 52 q = true := ek_52_0
theorem ek_53_0 : ∀ q ∈ tb_Rods_isMan_0, eok 53 q = true := by decide +kernel
theorem ek_53 : ∀ q ∈ tb_Rods_isMan, eok 53 q = true := ek_53_0
theorem ek_54_0 : ∀ q ∈ tb_Rods_sideOf_0, eok 54 q = true := by decide +kernel
theorem ek_54 : ∀ q ∈ tb_Rods_sideOf, eok 54 q = true := ek_54_0
theorem ek_55_0 : ∀ q ∈ tb_Rods_menOf_0, eok 55 q = true := by decide +kernel
theorem ek_55 : ∀ q ∈ tb_Rods_menOf, eok 55 q = true := ek_55_0
theorem ek_56_0 : ∀ q ∈ tb_Rods_gapOf_0, eok 56 q = true := by decide +kernel
theorem ek_56 : ∀ q ∈ tb_Rods_gapOf, eok 56 q = true := ek_56_0
theorem ek_57_0 : ∀ q ∈ tb_Rods_lastSlide_0, eok 57 q = true := by decide +kernel
theorem ek_57 : ∀ q ∈ tb_Rods_lastSlide, eok 57 q = true := ek_57_0
theorem ek_58_0 : ∀ q ∈ tb_Rods_isOf_0, eok 58 q = true := by decide +kernel
theorem ek_58 : ∀ q ∈ tb_Rods_isOf, eok 58 q = true := ek_58_0
theorem ek_59_0 : ∀ q ∈ tb_Rods_keeperOf_0, eok 59 q = true := by decide +kernel
theorem ek_59 : ∀ q ∈ tb_Rods_keeperOf, eok 59 q = true := ek_59_0
theorem ek_60_0 : ∀ q ∈ tb_Rods_backsOf_0, eok 60 q = true := by decide +kernel
theorem ek_60 : ∀ q ∈ tb_Rods_backsOf, eok 60 q = true := ek_60_0
theorem ek_61_0 : ∀ q ∈ tb_Rods_stepToGoalOf_0, eok 61 q = true := by decide +kernel
theorem ek_61 : ∀ q ∈ tb_Rods_stepToGoalOf, eok 61 q = true := ek_61_0
theorem ek_62_0 : ∀ q ∈ tb_Sights_init_0, eok 62 q = true := by decide +kernel
theorem ek_62 : ∀ q ∈ tb_Sights_init, eok 62 q = true := ek_62_0
theorem ek_63_0 : ∀ q ∈ tb_Sights_size_0, eok 63 q = true := by decide +kernel
theorem ek_63 : ∀ q ∈ tb_Sights_size, eok 63 q = true := ek_63_0
theorem ek_64_0 : ∀ q ∈ tb_Sights_add_0, eok 64 q = true := by decide +kernel
theorem ek_64 : ∀ q ∈ tb_Sights_add, eok 64 q = true := ek_64_0
theorem ek_65_0 : ∀ q ∈ tb_Sights_clear_0, eok 65 q = true := by decide +kernel
theorem ek_65 : ∀ q ∈ tb_Sights_clear, eok 65 q = true := ek_65_0
theorem ek_66_0 : ∀ q ∈ tb_Sights_copyFrom_0, eok 66 q = true := by decide +kernel
theorem ek_66 : ∀ q ∈ tb_Sights_copyFrom, eok 66 q = true := ek_66_0
theorem ek_67_0 : ∀ q ∈ tb_Sights_findRows_0, eok 67 q = true := by decide +kernel
theorem ek_67 : ∀ q ∈ tb_Sights_findRows, eok 67 q = true := ek_67_0
theorem ek_68_0 : ∀ q ∈ tb_Sights_rowFound_0, eok 68 q = true := by decide +kernel
theorem ek_68 : ∀ q ∈ tb_Sights_rowFound, eok 68 q = true := ek_68_0
theorem ek_69_0 : ∀ q ∈ tb_Sights_bestShot_0, eok 69 q = true := by decide +kernel
theorem ek_69 : ∀ q ∈ tb_Sights_bestShot, eok 69 q = true := ek_69_0
theorem ek_70_0 : ∀ q ∈ tb_Sights_mostLeft_0, eok 70 q = true := by decide +kernel
theorem ek_70 : ∀ q ∈ tb_Sights_mostLeft, eok 70 q = true := ek_70_0
theorem ek_71_0 : ∀ q ∈ tb_Sights_isRow_0, eok 71 q = true := by decide +kernel
theorem ek_71 : ∀ q ∈ tb_Sights_isRow, eok 71 q = true := ek_71_0
theorem ek_72_0 : ∀ q ∈ tb_Sights_fitsAll_0, eok 72 q = true := by decide +kernel
theorem ek_72 : ∀ q ∈ tb_Sights_fitsAll, eok 72 q = true := ek_72_0
theorem ek_73_0 : ∀ q ∈ tb_Sights_sideBy_0, eok 73 q = true := by decide +kernel
theorem ek_73 : ∀ q ∈ tb_Sights_sideBy, eok 73 q = true := ek_73_0
theorem ek_74_0 : ∀ q ∈ tb_Table_init_0, eok 74 q = true := by decide +kernel
theorem ek_74 : ∀ q ∈ tb_Table_init, eok 74 q = true := ek_74_0
theorem ek_75_0 : ∀ q ∈ tb_Table_copyFrom_0, eok 75 q = true := by decide +kernel
theorem ek_75 : ∀ q ∈ tb_Table_copyFrom, eok 75 q = true := ek_75_0
theorem ek_76_0 : ∀ q ∈ tb_Table_slideOf_0, eok 76 q = true := by decide +kernel
theorem ek_76 : ∀ q ∈ tb_Table_slideOf, eok 76 q = true := ek_76_0
theorem ek_77_0 : ∀ q ∈ tb_Table_slideTo_0, eok 77 q = true := by decide +kernel
theorem ek_77 : ∀ q ∈ tb_Table_slideTo, eok 77 q = true := ek_77_0
theorem ek_78_0 : ∀ q ∈ tb_Table_scoredBy_0, eok 78 q = true := by decide +kernel
theorem ek_78 : ∀ q ∈ tb_Table_scoredBy, eok 78 q = true := ek_78_0
theorem ek_79_0 : ∀ q ∈ tb_Table_setScored_0, eok 79 q = true := by decide +kernel
theorem ek_79 : ∀ q ∈ tb_Table_setScored, eok 79 q = true := ek_79_0
theorem ek_80_0 : ∀ q ∈ tb_Table_scoredInAll_0, eok 80 q = true := by decide +kernel
theorem ek_80 : ∀ q ∈ tb_Table_scoredInAll, eok 80 q = true := ek_80_0
theorem ek_81_0 : ∀ q ∈ tb_Table_heldRods_0, eok 81 q = true := by decide +kernel
theorem ek_81 : ∀ q ∈ tb_Table_heldRods, eok 81 q = true := ek_81_0
theorem ek_82_0 : ∀ q ∈ tb_Table_isHeld_0, eok 82 q = true := by decide +kernel
theorem ek_82 : ∀ q ∈ tb_Table_isHeld, eok 82 q = true := ek_82_0
theorem ek_83_0 : ∀ q ∈ tb_Table_heldBy_0, eok 83 q = true := by decide +kernel
theorem ek_83 : ∀ q ∈ tb_Table_heldBy, eok 83 q = true := ek_83_0
theorem ek_84_0 : ∀ q ∈ tb_Table_setHeld_0, eok 84 q = true := by decide +kernel
theorem ek_84 : ∀ q ∈ tb_Table_setHeld, eok 84 q = true := ek_84_0
theorem ek_85_0 : ∀ q ∈ tb_Table_tenth_0, eok 85 q = true := by decide +kernel
theorem ek_85 : ∀ q ∈ tb_Table_tenth, eok 85 q = true := ek_85_0
theorem ek_86_0 : ∀ q ∈ tb_Table_isDead_0, eok 86 q = true := by decide +kernel
theorem ek_86 : ∀ q ∈ tb_Table_isDead, eok 86 q = true := ek_86_0
theorem ek_87_0 : ∀ q ∈ tb_Table_ballRod_0, eok 87 q = true := by decide +kernel
theorem ek_87 : ∀ q ∈ tb_Table_ballRod, eok 87 q = true := ek_87_0
theorem ek_88_0 : ∀ q ∈ tb_Table_ballMan_0, eok 88 q = true := by decide +kernel
theorem ek_88 : ∀ q ∈ tb_Table_ballMan, eok 88 q = true := ek_88_0
theorem ek_89_0 : ∀ q ∈ tb_Table_ballPlace_0, eok 89 q = true := by decide +kernel
theorem ek_89 : ∀ q ∈ tb_Table_ballPlace, eok 89 q = true := ek_89_0
theorem ek_90_0 : ∀ q ∈ tb_Table_loseBall_0, eok 90 q = true := by decide +kernel
theorem ek_90 : ∀ q ∈ tb_Table_loseBall, eok 90 q = true := ek_90_0
theorem ek_91_0 : ∀ q ∈ tb_Table_giveBall_0, eok 91 q = true := by decide +kernel
theorem ek_91 : ∀ q ∈ tb_Table_giveBall, eok 91 q = true := ek_91_0
theorem ek_92_0 : ∀ q ∈ tb_Table_placeOf_0, eok 92 q = true := by decide +kernel
theorem ek_92 : ∀ q ∈ tb_Table_placeOf, eok 92 q = true := ek_92_0
theorem ek_93_0 : ∀ q ∈ tb_Table_covererOf_0, eok 93 q = true := by decide +kernel
theorem ek_93 : ∀ q ∈ tb_Table_covererOf, eok 93 q = true := ek_93_0
theorem ek_94_0 : ∀ q ∈ tb_Table_nearestOf_0, eok 94 q = true := by decide +kernel
theorem ek_94 : ∀ q ∈ tb_Table_nearestOf, eok 94 q = true := ek_94_0
theorem ek_95_0 : ∀ q ∈ tb_Table_overFrom_0, eok 95 q = true := by decide +kernel
theorem ek_95_1 : ∀ q ∈ tb_Table_overFrom_1, eok 95 q = true := by decide +kernel
theorem ek_95 : ∀ q ∈ tb_Table_overFrom, eok 95 q = true := List.forall_mem_append.mpr ⟨ek_95_0, ek_95_1⟩
theorem ek_96_0 : ∀ q ∈ tb_Table_shotEnd_0, eok 96 q = true := by decide +kernel
theorem ek_96_1 : ∀ q ∈ tb_Table_shotEnd_1, eok 96 q = true := by decide +kernel
theorem ek_96 : ∀ q ∈ tb_Table_shotEnd, eok 96 q = true := List.forall_mem_append.mpr ⟨ek_96_0, ek_96_1⟩
theorem ek_97_0 : ∀ q ∈ tb_Table_reachesGoal_0, eok 97 q = true := by decide +kernel
theorem ek_97 : ∀ q ∈ tb_Table_reachesGoal, eok 97 q = true := ek_97_0
theorem ek_98_0 : ∀ q ∈ tb_Table_shotsToGoal_0, eok 98 q = true := by decide +kernel
theorem ek_98 : ∀ q ∈ tb_Table_shotsToGoal, eok 98 q = true := ek_98_0
theorem ek_99_0 : ∀ q ∈ tb_Table_shotsPast_0, eok 99 q = true := by decide +kernel
theorem ek_99 : ∀ q ∈ tb_Table_shotsPast, eok 99 q = true := ek_99_0
theorem ek_100_0 : ∀ q ∈ tb_Table_bounced_0, eok 100 q = true := by decide +kernel
theorem ek_100 : ∀ q ∈ tb_Table_bounced, eok 100 q = true := ek_100_0
theorem ek_101_0 : ∀ q ∈ tb_Table_whyNot_0, eok 101 q = true := by decide +kernel
theorem ek_101_1 : ∀ q ∈ tb_Table_whyNot_1, eok 101 q = true := by decide +kernel
theorem ek_101 : ∀ q ∈ tb_Table_whyNot, eok 101 q = true := List.forall_mem_append.mpr ⟨ek_101_0, ek_101_1⟩
theorem ek_102_0 : ∀ q ∈ tb_Table_isPlayed_0, eok 102 q = true := by decide +kernel
theorem ek_102 : ∀ q ∈ tb_Table_isPlayed, eok 102 q = true := ek_102_0
theorem ek_103_0 : ∀ q ∈ tb_Table_isHeldWrongly_0, eok 103 q = true := by decide +kernel
theorem ek_103 : ∀ q ∈ tb_Table_isHeldWrongly, eok 103 q = true := ek_103_0
theorem ek_104_0 : ∀ q ∈ tb_Table_isNextMan_0, eok 104 q = true := by decide +kernel
theorem ek_104 : ∀ q ∈ tb_Table_isNextMan, eok 104 q = true := ek_104_0
theorem ek_105_0 : ∀ q ∈ tb_Table_perform_0, eok 105 q = true := by decide +kernel
theorem ek_105_1 : ∀ q ∈ tb_Table_perform_1, eok 105 q = true := by decide +kernel
theorem ek_105 : ∀ q ∈ tb_Table_perform, eok 105 q = true := List.forall_mem_append.mpr ⟨ek_105_0, ek_105_1⟩
theorem ek_106_0 : ∀ q ∈ tb_Table_endShot_0, eok 106 q = true := by decide +kernel
theorem ek_106 : ∀ q ∈ tb_Table_endShot, eok 106 q = true := ek_106_0
theorem ek_107_0 : ∀ q ∈ tb_Table_tryDrawn_0, eok 107 q = true := by decide +kernel
theorem ek_107 : ∀ q ∈ tb_Table_tryDrawn, eok 107 q = true := ek_107_0
theorem ek_108_0 : ∀ q ∈ tb_Table_drawnNumber_0, eok 108 q = true := by decide +kernel
theorem ek_108 : ∀ q ∈ tb_Table_drawnNumber, eok 108 q = true := ek_108_0
theorem ek_109_0 : ∀ q ∈ tb_F_init_0, eok 109 q = true := by decide +kernel
theorem ek_109 : ∀ q ∈ tb_F_init, eok 109 q = true := ek_109_0
theorem ek_110_0 : ∀ q ∈ tb_F_slide_0, eok 110 q = true := by decide +kernel
theorem ek_110 : ∀ q ∈ tb_F_slide, eok 110 q = true := ek_110_0
theorem ek_111_0 : ∀ q ∈ tb_F_hold_0, eok 111 q = true := by decide +kernel
theorem ek_111 : ∀ q ∈ tb_F_hold, eok 111 q = true := ek_111_0
theorem ek_112_0 : ∀ q ∈ tb_F_ball_0, eok 112 q = true := by decide +kernel
theorem ek_112 : ∀ q ∈ tb_F_ball, eok 112 q = true := ek_112_0
theorem ek_113_0 : ∀ q ∈ tb_F_goals_0, eok 113 q = true := by decide +kernel
theorem ek_113 : ∀ q ∈ tb_F_goals, eok 113 q = true := ek_113_0
theorem ek_114_0 : ∀ q ∈ tb_F_say_0, eok 114 q = true := by decide +kernel
theorem ek_114 : ∀ q ∈ tb_F_say, eok 114 q = true := ek_114_0
theorem ek_115_0 : ∀ q ∈ tb_F_wipe_0, eok 115 q = true := by decide +kernel
theorem ek_115 : ∀ q ∈ tb_F_wipe, eok 115 q = true := ek_115_0
theorem ek_116_0 : ∀ q ∈ tb_F_fault_0, eok 116 q = true := by decide +kernel
theorem ek_116 : ∀ q ∈ tb_F_fault, eok 116 q = true := ek_116_0
theorem ek_117_0 : ∀ q ∈ tb_F_judge_0, eok 117 q = true := by decide +kernel
theorem ek_117 : ∀ q ∈ tb_F_judge, eok 117 q = true := ek_117_0
theorem ek_118_0 : ∀ q ∈ tb_F_done_0, eok 118 q = true := by decide +kernel
theorem ek_118 : ∀ q ∈ tb_F_done, eok 118 q = true := ek_118_0
theorem ek_119_0 : ∀ q ∈ tb_F_behind_0, eok 119 q = true := by decide +kernel
theorem ek_119 : ∀ q ∈ tb_F_behind, eok 119 q = true := ek_119_0
theorem ek_120_0 : ∀ q ∈ tb_F_then_0, eok 120 q = true := by decide +kernel
theorem ek_120 : ∀ q ∈ tb_F_then, eok 120 q = true := ek_120_0
theorem ek_121_0 : ∀ q ∈ tb_F_ends_0, eok 121 q = true := by decide +kernel
theorem ek_121 : ∀ q ∈ tb_F_ends, eok 121 q = true := ek_121_0
theorem ek_122_0 : ∀ q ∈ tb_F_goesIn_0, eok 122 q = true := by decide +kernel
theorem ek_122 : ∀ q ∈ tb_F_goesIn, eok 122 q = true := ek_122_0
theorem ek_123_0 : ∀ q ∈ tb_F_path_0, eok 123 q = true := by decide +kernel
theorem ek_123 : ∀ q ∈ tb_F_path, eok 123 q = true := ek_123_0
theorem ek_124_0 : ∀ q ∈ tb_F_stand_0, eok 124 q = true := by decide +kernel
theorem ek_124 : ∀ q ∈ tb_F_stand, eok 124 q = true := ek_124_0
theorem ek_125_0 : ∀ q ∈ tb_F_mix_0, eok 125 q = true := by decide +kernel
theorem ek_125 : ∀ q ∈ tb_F_mix, eok 125 q = true := ek_125_0
theorem ek_126_0 : ∀ q ∈ tb_F_hands_0, eok 126 q = true := by decide +kernel
theorem ek_126 : ∀ q ∈ tb_F_hands, eok 126 q = true := ek_126_0
theorem ek_127_0 : ∀ q ∈ tb_F_truly_0, eok 127 q = true := by decide +kernel
theorem ek_127 : ∀ q ∈ tb_F_truly, eok 127 q = true := ek_127_0
theorem ek_128_0 : ∀ q ∈ tb_F_race_0, eok 128 q = true := by decide +kernel
theorem ek_128 : ∀ q ∈ tb_F_race, eok 128 q = true := ek_128_0
theorem ek_129_0 : ∀ q ∈ tb_F_seen_0, eok 129 q = true := by decide +kernel
theorem ek_129 : ∀ q ∈ tb_F_seen, eok 129 q = true := ek_129_0
theorem ek_130_0 : ∀ q ∈ tb_F_forget_0, eok 130 q = true := by decide +kernel
theorem ek_130 : ∀ q ∈ tb_F_forget, eok 130 q = true := ek_130_0
theorem ek_131_0 : ∀ q ∈ tb_F_fits_0, eok 131 q = true := by decide +kernel
theorem ek_131 : ∀ q ∈ tb_F_fits, eok 131 q = true := ek_131_0
theorem ek_132_0 : ∀ q ∈ tb_F_ask_0, eok 132 q = true := by decide +kernel
theorem ek_132 : ∀ q ∈ tb_F_ask, eok 132 q = true := ek_132_0
theorem ek_133_0 : ∀ q ∈ tb_F_year_0, eok 133 q = true := by decide +kernel
theorem ek_133 : ∀ q ∈ tb_F_year, eok 133 q = true := ek_133_0
theorem ek_134_0 : ∀ q ∈ tb_F_image_0, eok 134 q = true := by decide +kernel
theorem ek_134 : ∀ q ∈ tb_F_image, eok 134 q = true := ek_134_0
theorem ek_135_0 : ∀ q ∈ tb_F_restore_0, eok 135 q = true := by decide +kernel
theorem ek_135 : ∀ q ∈ tb_F_restore, eok 135 q = true := ek_135_0
theorem ek_136_0 : ∀ q ∈ tb_F_told_0, eok 136 q = true := by decide +kernel
theorem ek_136 : ∀ q ∈ tb_F_told, eok 136 q = true := ek_136_0
theorem ek_137_0 : ∀ q ∈ tb_F_toldByNumber_0, eok 137 q = true := by decide +kernel
theorem ek_137 : ∀ q ∈ tb_F_toldByNumber, eok 137 q = true := ek_137_0
theorem ek_138_0 : ∀ q ∈ tb_F_playsThrough_0, eok 138 q = true := by decide +kernel
theorem ek_138 : ∀ q ∈ tb_F_playsThrough, eok 138 q = true := ek_138_0
theorem ek_139_0 : ∀ q ∈ tb_F_imageOf_0, eok 139 q = true := by decide +kernel
theorem ek_139 : ∀ q ∈ tb_F_imageOf, eok 139 q = true := ek_139_0
theorem ek_140_0 : ∀ q ∈ tb_F_isWithin_0, eok 140 q = true := by decide +kernel
theorem ek_140 : ∀ q ∈ tb_F_isWithin, eok 140 q = true := ek_140_0
theorem ek_141_0 : ∀ q ∈ tb_F_isBit_0, eok 141 q = true := by decide +kernel
theorem ek_141 : ∀ q ∈ tb_F_isBit, eok 141 q = true := ek_141_0
theorem ek_142_0 : ∀ q ∈ tb_F_isTenths_0, eok 142 q = true := by decide +kernel
theorem ek_142 : ∀ q ∈ tb_F_isTenths, eok 142 q = true := ek_142_0
theorem ek_143_0 : ∀ q ∈ tb_F_shotBit_0, eok 143 q = true := by decide +kernel
theorem ek_143 : ∀ q ∈ tb_F_shotBit, eok 143 q = true := ek_143_0
theorem ek_144_0 : ∀ q ∈ tb_F_copyRow_0, eok 144 q = true := by decide +kernel
theorem ek_144 : ∀ q ∈ tb_F_copyRow, eok 144 q = true := ek_144_0
theorem ek_145_0 : ∀ q ∈ tb_M_init_0, eok 145 q = true := by decide +kernel
theorem ek_145_1 : ∀ q ∈ tb_M_init_1, eok 145 q = true := by decide +kernel
theorem ek_145 : ∀ q ∈ tb_M_init, eok 145 q = true := List.forall_mem_append.mpr ⟨ek_145_0, ek_145_1⟩
theorem ek_146_0 : ∀ q ∈ tb_M_in_0, eok 146 q = true := by decide +kernel
theorem ek_146 : ∀ q ∈ tb_M_in, eok 146 q = true := ek_146_0
theorem ek_147_0 : ∀ q ∈ tb_M_bits_0, eok 147 q = true := by decide +kernel
theorem ek_147 : ∀ q ∈ tb_M_bits, eok 147 q = true := ek_147_0
theorem ek_148_0 : ∀ q ∈ tb_M_isRod_0, eok 148 q = true := by decide +kernel
theorem ek_148 : ∀ q ∈ tb_M_isRod, eok 148 q = true := ek_148_0
theorem ek_149_0 : ∀ q ∈ tb_M_sideOf_0, eok 149 q = true := by decide +kernel
theorem ek_149 : ∀ q ∈ tb_M_sideOf, eok 149 q = true := ek_149_0
theorem ek_150_0 : ∀ q ∈ tb_M_kindOf_0, eok 150 q = true := by decide +kernel
theorem ek_150 : ∀ q ∈ tb_M_kindOf, eok 150 q = true := ek_150_0
theorem ek_151_0 : ∀ q ∈ tb_M_menOf_0, eok 151 q = true := by decide +kernel
theorem ek_151 : ∀ q ∈ tb_M_menOf, eok 151 q = true := ek_151_0
theorem ek_152_0 : ∀ q ∈ tb_M_apartOf_0, eok 152 q = true := by decide +kernel
theorem ek_152 : ∀ q ∈ tb_M_apartOf, eok 152 q = true := ek_152_0
theorem ek_153_0 : ∀ q ∈ tb_M_widest_0, eok 153 q = true := by decide +kernel
theorem ek_153 : ∀ q ∈ tb_M_widest, eok 153 q = true := ek_153_0
theorem ek_154_0 : ∀ q ∈ tb_M_isMan_0, eok 154 q = true := by decide +kernel
theorem ek_154 : ∀ q ∈ tb_M_isMan, eok 154 q = true := ek_154_0
theorem ek_155_0 : ∀ q ∈ tb_M_held_0, eok 155 q = true := by decide +kernel
theorem ek_155 : ∀ q ∈ tb_M_held, eok 155 q = true := ek_155_0
theorem ek_156_0 : ∀ q ∈ tb_M_slide_0, eok 156 q = true := by decide +kernel
theorem ek_156 : ∀ q ∈ tb_M_slide, eok 156 q = true := ek_156_0
theorem ek_157_0 : ∀ q ∈ tb_M_hold_0, eok 157 q = true := by decide +kernel
theorem ek_157 : ∀ q ∈ tb_M_hold, eok 157 q = true := ek_157_0
theorem ek_158_0 : ∀ q ∈ tb_M_ball_0, eok 158 q = true := by decide +kernel
theorem ek_158 : ∀ q ∈ tb_M_ball, eok 158 q = true := ek_158_0
theorem ek_159_0 : ∀ q ∈ tb_M_goals_0, eok 159 q = true := by decide +kernel
theorem ek_159 : ∀ q ∈ tb_M_goals, eok 159 q = true := ek_159_0
theorem ek_160_0 : ∀ q ∈ tb_M_say_0, eok 160 q = true := by decide +kernel
theorem ek_160 : ∀ q ∈ tb_M_say, eok 160 q = true := ek_160_0
theorem ek_161_0 : ∀ q ∈ tb_M_wipe_0, eok 161 q = true := by decide +kernel
theorem ek_161 : ∀ q ∈ tb_M_wipe, eok 161 q = true := ek_161_0
theorem ek_162_0 : ∀ q ∈ tb_M_step_0, eok 162 q = true := by decide +kernel
theorem ek_162_1 : ∀ q ∈ tb_M_step_1, eok 162 q = true := by decide +kernel
theorem ek_162 : ∀ q ∈ tb_M_step, eok 162 q = true := List.forall_mem_append.mpr ⟨ek_162_0, ek_162_1⟩
theorem ek_163_0 : ∀ q ∈ tb_M_faultOf_0, eok 163 q = true := by decide +kernel
theorem ek_163 : ∀ q ∈ tb_M_faultOf, eok 163 q = true := ek_163_0
theorem ek_164_0 : ∀ q ∈ tb_M_fault_0, eok 164 q = true := by decide +kernel
theorem ek_164 : ∀ q ∈ tb_M_fault, eok 164 q = true := ek_164_0
theorem ek_165_0 : ∀ q ∈ tb_M_standsAt_0, eok 165 q = true := by decide +kernel
theorem ek_165 : ∀ q ∈ tb_M_standsAt, eok 165 q = true := ek_165_0
theorem ek_166_0 : ∀ q ∈ tb_M_covers_0, eok 166 q = true := by decide +kernel
theorem ek_166 : ∀ q ∈ tb_M_covers, eok 166 q = true := ek_166_0
theorem ek_167_0 : ∀ q ∈ tb_M_shotBy_0, eok 167 q = true := by decide +kernel
theorem ek_167_1 : ∀ q ∈ tb_M_shotBy_1, eok 167 q = true := by decide +kernel
theorem ek_167 : ∀ q ∈ tb_M_shotBy, eok 167 q = true := List.forall_mem_append.mpr ⟨ek_167_0, ek_167_1⟩
theorem ek_168_0 : ∀ q ∈ tb_M_overBy_0, eok 168 q = true := by decide +kernel
theorem ek_168_1 : ∀ q ∈ tb_M_overBy_1, eok 168 q = true := by decide +kernel
theorem ek_168 : ∀ q ∈ tb_M_overBy, eok 168 q = true := List.forall_mem_append.mpr ⟨ek_168_0, ek_168_1⟩
theorem ek_169_0 : ∀ q ∈ tb_M_asNow_0, eok 169 q = true := by decide +kernel
theorem ek_169 : ∀ q ∈ tb_M_asNow, eok 169 q = true := ek_169_0
theorem ek_170_0 : ∀ q ∈ tb_M_isOver_0, eok 170 q = true := by decide +kernel
theorem ek_170 : ∀ q ∈ tb_M_isOver, eok 170 q = true := ek_170_0
theorem ek_171_0 : ∀ q ∈ tb_M_grasp_0, eok 171 q = true := by decide +kernel
theorem ek_171 : ∀ q ∈ tb_M_grasp, eok 171 q = true := ek_171_0
theorem ek_172_0 : ∀ q ∈ tb_M_letGo_0, eok 172 q = true := by decide +kernel
theorem ek_172 : ∀ q ∈ tb_M_letGo, eok 172 q = true := ek_172_0
theorem ek_173_0 : ∀ q ∈ tb_M_slideBy_0, eok 173 q = true := by decide +kernel
theorem ek_173 : ∀ q ∈ tb_M_slideBy, eok 173 q = true := ek_173_0
theorem ek_174_0 : ∀ q ∈ tb_M_whyNot_0, eok 174 q = true := by decide +kernel
theorem ek_174 : ∀ q ∈ tb_M_whyNot, eok 174 q = true := ek_174_0
theorem ek_175_0 : ∀ q ∈ tb_M_passTo_0, eok 175 q = true := by decide +kernel
theorem ek_175 : ∀ q ∈ tb_M_passTo, eok 175 q = true := ek_175_0
theorem ek_176_0 : ∀ q ∈ tb_M_passOver_0, eok 176 q = true := by decide +kernel
theorem ek_176 : ∀ q ∈ tb_M_passOver, eok 176 q = true := ek_176_0
theorem ek_177_0 : ∀ q ∈ tb_M_shoot_0, eok 177 q = true := by decide +kernel
theorem ek_177 : ∀ q ∈ tb_M_shoot, eok 177 q = true := ek_177_0
theorem ek_178_0 : ∀ q ∈ tb_M_throwIn_0, eok 178 q = true := by decide +kernel
theorem ek_178 : ∀ q ∈ tb_M_throwIn, eok 178 q = true := ek_178_0
theorem ek_179_0 : ∀ q ∈ tb_M_endTenth_0, eok 179 q = true := by decide +kernel
theorem ek_179 : ∀ q ∈ tb_M_endTenth, eok 179 q = true := ek_179_0
theorem ek_180_0 : ∀ q ∈ tb_M_rodAct_0, eok 180 q = true := by decide +kernel
theorem ek_180 : ∀ q ∈ tb_M_rodAct, eok 180 q = true := ek_180_0
theorem ek_181_0 : ∀ q ∈ tb_M_nextAct_0, eok 181 q = true := by decide +kernel
theorem ek_181_1 : ∀ q ∈ tb_M_nextAct_1, eok 181 q = true := by decide +kernel
theorem ek_181_2 : ∀ q ∈ tb_M_nextAct_2, eok 181 q = true := by decide +kernel
theorem ek_181 : ∀ q ∈ tb_M_nextAct, eok 181 q = true := List.forall_mem_append.mpr ⟨List.forall_mem_append.mpr ⟨ek_181_0, ek_181_1⟩, ek_181_2⟩
theorem ek_182_0 : ∀ q ∈ tb_M_goEvenings_0, eok 182 q = true := by decide +kernel
theorem ek_182_1 : ∀ q ∈ tb_M_goEvenings_1, eok 182 q = true := by decide +kernel
theorem ek_182 : ∀ q ∈ tb_M_goEvenings, eok 182 q = true := List.forall_mem_append.mpr ⟨ek_182_0, ek_182_1⟩
theorem ek_183_0 : ∀ q ∈ tb_M_judge_0, eok 183 q = true := by decide +kernel
theorem ek_183 : ∀ q ∈ tb_M_judge, eok 183 q = true := ek_183_0
theorem ek_184_0 : ∀ q ∈ tb_M_barOfEvenings_0, eok 184 q = true := by decide +kernel
theorem ek_184 : ∀ q ∈ tb_M_barOfEvenings, eok 184 q = true := ek_184_0
theorem ek_185_0 : ∀ q ∈ tb_M_done_0, eok 185 q = true := by decide +kernel
theorem ek_185 : ∀ q ∈ tb_M_done, eok 185 q = true := ek_185_0
theorem ek_186_0 : ∀ q ∈ tb_M_behind_0, eok 186 q = true := by decide +kernel
theorem ek_186 : ∀ q ∈ tb_M_behind, eok 186 q = true := ek_186_0
theorem ek_187_0 : ∀ q ∈ tb_M_then_0, eok 187 q = true := by decide +kernel
theorem ek_187 : ∀ q ∈ tb_M_then, eok 187 q = true := ek_187_0
theorem ek_188_0 : ∀ q ∈ tb_M_ends_0, eok 188 q = true := by decide +kernel
theorem ek_188 : ∀ q ∈ tb_M_ends, eok 188 q = true := ek_188_0
theorem ek_189_0 : ∀ q ∈ tb_M_allIn_0, eok 189 q = true := by decide +kernel
theorem ek_189 : ∀ q ∈ tb_M_allIn, eok 189 q = true := ek_189_0
theorem ek_190_0 : ∀ q ∈ tb_M_goesIn_0, eok 190 q = true := by decide +kernel
theorem ek_190 : ∀ q ∈ tb_M_goesIn, eok 190 q = true := ek_190_0
theorem ek_191_0 : ∀ q ∈ tb_M_passes_0, eok 191 q = true := by decide +kernel
theorem ek_191 : ∀ q ∈ tb_M_passes, eok 191 q = true := ek_191_0
theorem ek_192_0 : ∀ q ∈ tb_M_path_0, eok 192 q = true := by decide +kernel
theorem ek_192_1 : ∀ q ∈ tb_M_path_1, eok 192 q = true := by decide +kernel
theorem ek_192_2 : ∀ q ∈ tb_M_path_2, eok 192 q = true := by decide +kernel
theorem ek_192_3 : ∀ q ∈ tb_M_path_3, eok 192 q = true := by decide +kernel
theorem ek_192 : ∀ q ∈ tb_M_path, eok 192 q = true := List.forall_mem_append.mpr ⟨List.forall_mem_append.mpr ⟨List.forall_mem_append.mpr ⟨ek_192_0, ek_192_1⟩, ek_192_2⟩, ek_192_3⟩
theorem ek_193_0 : ∀ q ∈ tb_M_stand_0, eok 193 q = true := by decide +kernel
theorem ek_193_1 : ∀ q ∈ tb_M_stand_1, eok 193 q = true := by decide +kernel
theorem ek_193 : ∀ q ∈ tb_M_stand, eok 193 q = true := List.forall_mem_append.mpr ⟨ek_193_0, ek_193_1⟩
theorem ek_194_0 : ∀ q ∈ tb_M_lowest_0, eok 194 q = true := by decide +kernel
theorem ek_194 : ∀ q ∈ tb_M_lowest, eok 194 q = true := ek_194_0
theorem ek_195_0 : ∀ q ∈ tb_M_mix_0, eok 195 q = true := by decide +kernel
theorem ek_195_1 : ∀ q ∈ tb_M_mix_1, eok 195 q = true := by decide +kernel
theorem ek_195_2 : ∀ q ∈ tb_M_mix_2, eok 195 q = true := by decide +kernel
theorem ek_195 : ∀ q ∈ tb_M_mix, eok 195 q = true := List.forall_mem_append.mpr ⟨List.forall_mem_append.mpr ⟨ek_195_0, ek_195_1⟩, ek_195_2⟩
theorem ek_196_0 : ∀ q ∈ tb_M_hands_0, eok 196 q = true := by decide +kernel
theorem ek_196_1 : ∀ q ∈ tb_M_hands_1, eok 196 q = true := by decide +kernel
theorem ek_196_2 : ∀ q ∈ tb_M_hands_2, eok 196 q = true := by decide +kernel
theorem ek_196_3 : ∀ q ∈ tb_M_hands_3, eok 196 q = true := by decide +kernel
theorem ek_196 : ∀ q ∈ tb_M_hands, eok 196 q = true := List.forall_mem_append.mpr ⟨List.forall_mem_append.mpr ⟨List.forall_mem_append.mpr ⟨ek_196_0, ek_196_1⟩, ek_196_2⟩, ek_196_3⟩
theorem ek_197_0 : ∀ q ∈ tb_M_power_0, eok 197 q = true := by decide +kernel
theorem ek_197 : ∀ q ∈ tb_M_power, eok 197 q = true := ek_197_0
theorem ek_198_0 : ∀ q ∈ tb_M_truly_0, eok 198 q = true := by decide +kernel
theorem ek_198_1 : ∀ q ∈ tb_M_truly_1, eok 198 q = true := by decide +kernel
theorem ek_198 : ∀ q ∈ tb_M_truly, eok 198 q = true := List.forall_mem_append.mpr ⟨ek_198_0, ek_198_1⟩
theorem ek_199_0 : ∀ q ∈ tb_M_race_0, eok 199 q = true := by decide +kernel
theorem ek_199_1 : ∀ q ∈ tb_M_race_1, eok 199 q = true := by decide +kernel
theorem ek_199_2 : ∀ q ∈ tb_M_race_2, eok 199 q = true := by decide +kernel
theorem ek_199 : ∀ q ∈ tb_M_race, eok 199 q = true := List.forall_mem_append.mpr ⟨List.forall_mem_append.mpr ⟨ek_199_0, ek_199_1⟩, ek_199_2⟩
theorem ek_200_0 : ∀ q ∈ tb_M_seen_0, eok 200 q = true := by decide +kernel
theorem ek_200 : ∀ q ∈ tb_M_seen, eok 200 q = true := ek_200_0
theorem ek_201_0 : ∀ q ∈ tb_M_forget_0, eok 201 q = true := by decide +kernel
theorem ek_201 : ∀ q ∈ tb_M_forget, eok 201 q = true := ek_201_0
theorem ek_202_0 : ∀ q ∈ tb_M_sideAt_0, eok 202 q = true := by decide +kernel
theorem ek_202 : ∀ q ∈ tb_M_sideAt, eok 202 q = true := ek_202_0
theorem ek_203_0 : ∀ q ∈ tb_M_isFit_0, eok 203 q = true := by decide +kernel
theorem ek_203 : ∀ q ∈ tb_M_isFit, eok 203 q = true := ek_203_0
theorem ek_204_0 : ∀ q ∈ tb_M_fits_0, eok 204 q = true := by decide +kernel
theorem ek_204 : ∀ q ∈ tb_M_fits, eok 204 q = true := ek_204_0
theorem ek_205_0 : ∀ q ∈ tb_M_ask_0, eok 205 q = true := by decide +kernel
theorem ek_205_1 : ∀ q ∈ tb_M_ask_1, eok 205 q = true := by decide +kernel
theorem ek_205 : ∀ q ∈ tb_M_ask, eok 205 q = true := List.forall_mem_append.mpr ⟨ek_205_0, ek_205_1⟩
theorem ek_206_0 : ∀ q ∈ tb_M_year_0, eok 206 q = true := by decide +kernel
theorem ek_206_1 : ∀ q ∈ tb_M_year_1, eok 206 q = true := by decide +kernel
theorem ek_206_2 : ∀ q ∈ tb_M_year_2, eok 206 q = true := by decide +kernel
theorem ek_206 : ∀ q ∈ tb_M_year, eok 206 q = true := List.forall_mem_append.mpr ⟨List.forall_mem_append.mpr ⟨ek_206_0, ek_206_1⟩, ek_206_2⟩
theorem ek_207_0 : ∀ q ∈ tb_M_image_0, eok 207 q = true := by decide +kernel
theorem ek_207_1 : ∀ q ∈ tb_M_image_1, eok 207 q = true := by decide +kernel
theorem ek_207 : ∀ q ∈ tb_M_image, eok 207 q = true := List.forall_mem_append.mpr ⟨ek_207_0, ek_207_1⟩
theorem ek_208_0 : ∀ q ∈ tb_M_restore_0, eok 208 q = true := by decide +kernel
theorem ek_208_1 : ∀ q ∈ tb_M_restore_1, eok 208 q = true := by decide +kernel
theorem ek_208 : ∀ q ∈ tb_M_restore, eok 208 q = true := List.forall_mem_append.mpr ⟨ek_208_0, ek_208_1⟩
theorem ek_209_0 : ∀ q ∈ tb_M_told_0, eok 209 q = true := by decide +kernel
theorem ek_209_1 : ∀ q ∈ tb_M_told_1, eok 209 q = true := by decide +kernel
theorem ek_209 : ∀ q ∈ tb_M_told, eok 209 q = true := List.forall_mem_append.mpr ⟨ek_209_0, ek_209_1⟩
theorem ek_210_0 : ∀ q ∈ tb_Integer_bitCount_0, eok 210 q = true := by decide +kernel
theorem ek_210 : ∀ q ∈ tb_Integer_bitCount, eok 210 q = true := ek_210_0
theorem ek_211_0 : ∀ q ∈ tb_Math_floorMod_0, eok 211 q = true := by decide +kernel
theorem ek_211 : ∀ q ∈ tb_Math_floorMod, eok 211 q = true := ek_211_0
theorem ek_212_0 : ∀ q ∈ tb_Math_abs_0, eok 212 q = true := by decide +kernel
theorem ek_212 : ∀ q ∈ tb_Math_abs, eok 212 q = true := ek_212_0
theorem ek_213_0 : ∀ q ∈ tb_Math_max_0, eok 213 q = true := by decide +kernel
theorem ek_213 : ∀ q ∈ tb_Math_max, eok 213 q = true := ek_213_0
theorem ek_214_0 : ∀ q ∈ tb_Math_min_0, eok 214 q = true := by decide +kernel
theorem ek_214 : ∀ q ∈ tb_Math_min, eok 214 q = true := ek_214_0
theorem ek_215_0 : ∀ q ∈ tb_Law_law_0, eok 215 q = true := by decide +kernel
theorem ek_215_1 : ∀ q ∈ tb_Law_law_1, eok 215 q = true := by decide +kernel
theorem ek_215_2 : ∀ q ∈ tb_Law_law_2, eok 215 q = true := by decide +kernel
theorem ek_215_3 : ∀ q ∈ tb_Law_law_3, eok 215 q = true := by decide +kernel
theorem ek_215_4 : ∀ q ∈ tb_Law_law_4, eok 215 q = true := by decide +kernel
theorem ek_215_5 : ∀ q ∈ tb_Law_law_5, eok 215 q = true := by decide +kernel
theorem ek_215_6 : ∀ q ∈ tb_Law_law_6, eok 215 q = true := by decide +kernel
theorem ek_215_7 : ∀ q ∈ tb_Law_law_7, eok 215 q = true := by decide +kernel
theorem ek_215_8 : ∀ q ∈ tb_Law_law_8, eok 215 q = true := by decide +kernel
theorem ek_215_9 : ∀ q ∈ tb_Law_law_9, eok 215 q = true := by decide +kernel
theorem ek_215_10 : ∀ q ∈ tb_Law_law_10, eok 215 q = true := by decide +kernel
theorem ek_215_11 : ∀ q ∈ tb_Law_law_11, eok 215 q = true := by decide +kernel
theorem ek_215 : ∀ q ∈ tb_Law_law, eok 215 q = true := List.forall_mem_append.mpr ⟨List.forall_mem_append.mpr ⟨List.forall_mem_append.mpr ⟨List.forall_mem_append.mpr ⟨List.forall_mem_append.mpr ⟨List.forall_mem_append.mpr ⟨List.forall_mem_append.mpr ⟨List.forall_mem_append.mpr ⟨List.forall_mem_append.mpr ⟨List.forall_mem_append.mpr ⟨List.forall_mem_append.mpr ⟨ek_215_0, ek_215_1⟩, ek_215_2⟩, ek_215_3⟩, ek_215_4⟩, ek_215_5⟩, ek_215_6⟩, ek_215_7⟩, ek_215_8⟩, ek_215_9⟩, ek_215_10⟩, ek_215_11⟩
def allOK : Nat → List (List (Nat × EN)) → Prop
  | _, [] => True
  | k, t :: ts => (∀ q ∈ t, eok k q = true) ∧ allOK (k + 1) ts
theorem allOK_get : ∀ (L : List (List (Nat × EN))) (k i : Nat) (t : List (Nat × EN)), allOK k L → L[i]? = some t → ∀ q ∈ t, eok (k + i) q = true
  | [], _, i, t, _, h => by simp at h
  | t0 :: ts, k, 0, t, h, hi => by
    rw [List.getElem?_cons_zero] at hi
    cases hi
    exact h.1
  | t0 :: ts, k, i + 1, t, h, hi => by
    rw [List.getElem?_cons_succ] at hi
    have := allOK_get ts (k + 1) i t h.2 hi
    rwa [show k + 1 + i = k + (i + 1) by omega] at this
theorem lookup_mem {pc : Nat} {e : EN} : ∀ (l : List (Nat × EN)), l.lookup pc = some e → (pc, e) ∈ l
  | [], h => by simp at h
  | (a, b) :: l, h => by
    rw [List.lookup_cons] at h
    by_cases hq : pc = a
    · subst hq
      simp at h
      subst h
      exact List.mem_cons_self
    · have : (pc == a) = false := by simpa using hq
      rw [this] at h
      exact List.mem_cons_of_mem _ (lookup_mem l h)
theorem ag_0 (ts : List (List (Nat × EN))) (h : allOK 12 ts) : allOK 0 (tb_Chances_part :: tb_Chances_commonDivisor :: tb_Chances_mixed :: tb_Chances_mixedInOrder :: tb_Chances_isTheFirst :: tb_Chances_winsRace :: tb_Chances_power :: tb_Defence_init :: tb_Defence_letIn :: tb_Defence_slides :: tb_Defence_place :: tb_Defence_shotsPastOthers :: ts) := ⟨ek_0, ⟨ek_1, ⟨ek_2, ⟨ek_3, ⟨ek_4, ⟨ek_5, ⟨ek_6, ⟨ek_7, ⟨ek_8, ⟨ek_9, ⟨ek_10, ⟨ek_11, h⟩⟩⟩⟩⟩⟩⟩⟩⟩⟩⟩⟩
theorem ag_1 (ts : List (List (Nat × EN))) (h : allOK 24 ts) : allOK 12 (tb_Defence_tryKeeper :: tb_Evening_init :: tb_Evening_table :: tb_Evening_acts :: tb_Evening_stoppedAt :: tb_Evening_reason :: tb_Evening_firstGoal :: tb_Evening_play :: tb_Grasps_isRow :: tb_Grasps_fewest :: tb_Grasps_needed :: tb_Grasps_latest :: ts) := ⟨ek_12, ⟨ek_13, ⟨ek_14, ⟨ek_15, ⟨ek_16, ⟨ek_17, ⟨ek_18, ⟨ek_19, ⟨ek_20, ⟨ek_21, ⟨ek_22, ⟨ek_23, h⟩⟩⟩⟩⟩⟩⟩⟩⟩⟩⟩⟩
theorem ag_2 (ts : List (List (Nat × EN))) (h : allOK 36 ts) : allOK 24 (tb_Grasps_nextNeed :: tb_Image_init :: tb_Image_keep :: tb_Image_giveBack :: tb_Pad_init :: tb_Pad_size :: tb_Pad_add :: tb_Pad_clear :: tb_Pad_rewind :: tb_Pad_isReadOut :: tb_Pad_kind :: tb_Pad_rod :: ts) := ⟨ek_24, ⟨ek_25, ⟨ek_26, ⟨ek_27, ⟨ek_28, ⟨ek_29, ⟨ek_30, ⟨ek_31, ⟨ek_32, ⟨ek_33, ⟨ek_34, ⟨ek_35, h⟩⟩⟩⟩⟩⟩⟩⟩⟩⟩⟩⟩
theorem ag_3 (ts : List (List (Nat × EN))) (h : allOK 48 ts) : allOK 36 (tb_Pad_number :: tb_Pad_faultPlace :: tb_Pad_readAct :: tb_Pad_takesHandling :: tb_Pad_takesWay :: tb_Pad_takes :: tb_Pad_takesRod :: tb_Pad_takesDigit :: tb_Pad_nextSign :: tb_Passes_init :: tb_Passes_from :: tb_Passes_countTo :: ts) := ⟨ek_36, ⟨ek_37, ⟨ek_38, ⟨ek_39, ⟨ek_40, ⟨ek_41, ⟨ek_42, ⟨ek_43, ⟨ek_44, ⟨ek_45, ⟨ek_46, ⟨ek_47, h⟩⟩⟩⟩⟩⟩⟩⟩⟩⟩⟩⟩
theorem ag_4 (ts : List (List (Nat × EN))) (h : allOK 60 ts) : allOK 48 (tb_Passes_leads :: tb_Passes_firstFrom :: tb_Passes_receiver :: tb_Passes_ownOnly :: tb_Rods_isRod :: tb_Rods_isMan :: tb_Rods_sideOf :: tb_Rods_menOf :: tb_Rods_gapOf :: tb_Rods_lastSlide :: tb_Rods_isOf :: tb_Rods_keeperOf :: ts) := ⟨ek_48, ⟨ek_49, ⟨ek_50, ⟨ek_51, ⟨ek_52, ⟨ek_53, ⟨ek_54, ⟨ek_55, ⟨ek_56, ⟨ek_57, ⟨ek_58, ⟨ek_59, h⟩⟩⟩⟩⟩⟩⟩⟩⟩⟩⟩⟩
theorem ag_5 (ts : List (List (Nat × EN))) (h : allOK 72 ts) : allOK 60 (tb_Rods_backsOf :: tb_Rods_stepToGoalOf :: tb_Sights_init :: tb_Sights_size :: tb_Sights_add :: tb_Sights_clear :: tb_Sights_copyFrom :: tb_Sights_findRows :: tb_Sights_rowFound :: tb_Sights_bestShot :: tb_Sights_mostLeft :: tb_Sights_isRow :: ts) := ⟨ek_60, ⟨ek_61, ⟨ek_62, ⟨ek_63, ⟨ek_64, ⟨ek_65, ⟨ek_66, ⟨ek_67, ⟨ek_68, ⟨ek_69, ⟨ek_70, ⟨ek_71, h⟩⟩⟩⟩⟩⟩⟩⟩⟩⟩⟩⟩
theorem ag_6 (ts : List (List (Nat × EN))) (h : allOK 84 ts) : allOK 72 (tb_Sights_fitsAll :: tb_Sights_sideBy :: tb_Table_init :: tb_Table_copyFrom :: tb_Table_slideOf :: tb_Table_slideTo :: tb_Table_scoredBy :: tb_Table_setScored :: tb_Table_scoredInAll :: tb_Table_heldRods :: tb_Table_isHeld :: tb_Table_heldBy :: ts) := ⟨ek_72, ⟨ek_73, ⟨ek_74, ⟨ek_75, ⟨ek_76, ⟨ek_77, ⟨ek_78, ⟨ek_79, ⟨ek_80, ⟨ek_81, ⟨ek_82, ⟨ek_83, h⟩⟩⟩⟩⟩⟩⟩⟩⟩⟩⟩⟩
theorem ag_7 (ts : List (List (Nat × EN))) (h : allOK 96 ts) : allOK 84 (tb_Table_setHeld :: tb_Table_tenth :: tb_Table_isDead :: tb_Table_ballRod :: tb_Table_ballMan :: tb_Table_ballPlace :: tb_Table_loseBall :: tb_Table_giveBall :: tb_Table_placeOf :: tb_Table_covererOf :: tb_Table_nearestOf :: tb_Table_overFrom :: ts) := ⟨ek_84, ⟨ek_85, ⟨ek_86, ⟨ek_87, ⟨ek_88, ⟨ek_89, ⟨ek_90, ⟨ek_91, ⟨ek_92, ⟨ek_93, ⟨ek_94, ⟨ek_95, h⟩⟩⟩⟩⟩⟩⟩⟩⟩⟩⟩⟩
theorem ag_8 (ts : List (List (Nat × EN))) (h : allOK 108 ts) : allOK 96 (tb_Table_shotEnd :: tb_Table_reachesGoal :: tb_Table_shotsToGoal :: tb_Table_shotsPast :: tb_Table_bounced :: tb_Table_whyNot :: tb_Table_isPlayed :: tb_Table_isHeldWrongly :: tb_Table_isNextMan :: tb_Table_perform :: tb_Table_endShot :: tb_Table_tryDrawn :: ts) := ⟨ek_96, ⟨ek_97, ⟨ek_98, ⟨ek_99, ⟨ek_100, ⟨ek_101, ⟨ek_102, ⟨ek_103, ⟨ek_104, ⟨ek_105, ⟨ek_106, ⟨ek_107, h⟩⟩⟩⟩⟩⟩⟩⟩⟩⟩⟩⟩
theorem ag_9 (ts : List (List (Nat × EN))) (h : allOK 120 ts) : allOK 108 (tb_Table_drawnNumber :: tb_F_init :: tb_F_slide :: tb_F_hold :: tb_F_ball :: tb_F_goals :: tb_F_say :: tb_F_wipe :: tb_F_fault :: tb_F_judge :: tb_F_done :: tb_F_behind :: ts) := ⟨ek_108, ⟨ek_109, ⟨ek_110, ⟨ek_111, ⟨ek_112, ⟨ek_113, ⟨ek_114, ⟨ek_115, ⟨ek_116, ⟨ek_117, ⟨ek_118, ⟨ek_119, h⟩⟩⟩⟩⟩⟩⟩⟩⟩⟩⟩⟩
theorem ag_10 (ts : List (List (Nat × EN))) (h : allOK 132 ts) : allOK 120 (tb_F_then :: tb_F_ends :: tb_F_goesIn :: tb_F_path :: tb_F_stand :: tb_F_mix :: tb_F_hands :: tb_F_truly :: tb_F_race :: tb_F_seen :: tb_F_forget :: tb_F_fits :: ts) := ⟨ek_120, ⟨ek_121, ⟨ek_122, ⟨ek_123, ⟨ek_124, ⟨ek_125, ⟨ek_126, ⟨ek_127, ⟨ek_128, ⟨ek_129, ⟨ek_130, ⟨ek_131, h⟩⟩⟩⟩⟩⟩⟩⟩⟩⟩⟩⟩
theorem ag_11 (ts : List (List (Nat × EN))) (h : allOK 144 ts) : allOK 132 (tb_F_ask :: tb_F_year :: tb_F_image :: tb_F_restore :: tb_F_told :: tb_F_toldByNumber :: tb_F_playsThrough :: tb_F_imageOf :: tb_F_isWithin :: tb_F_isBit :: tb_F_isTenths :: tb_F_shotBit :: ts) := ⟨ek_132, ⟨ek_133, ⟨ek_134, ⟨ek_135, ⟨ek_136, ⟨ek_137, ⟨ek_138, ⟨ek_139, ⟨ek_140, ⟨ek_141, ⟨ek_142, ⟨ek_143, h⟩⟩⟩⟩⟩⟩⟩⟩⟩⟩⟩⟩
theorem ag_12 (ts : List (List (Nat × EN))) (h : allOK 156 ts) : allOK 144 (tb_F_copyRow :: tb_M_init :: tb_M_in :: tb_M_bits :: tb_M_isRod :: tb_M_sideOf :: tb_M_kindOf :: tb_M_menOf :: tb_M_apartOf :: tb_M_widest :: tb_M_isMan :: tb_M_held :: ts) := ⟨ek_144, ⟨ek_145, ⟨ek_146, ⟨ek_147, ⟨ek_148, ⟨ek_149, ⟨ek_150, ⟨ek_151, ⟨ek_152, ⟨ek_153, ⟨ek_154, ⟨ek_155, h⟩⟩⟩⟩⟩⟩⟩⟩⟩⟩⟩⟩
theorem ag_13 (ts : List (List (Nat × EN))) (h : allOK 168 ts) : allOK 156 (tb_M_slide :: tb_M_hold :: tb_M_ball :: tb_M_goals :: tb_M_say :: tb_M_wipe :: tb_M_step :: tb_M_faultOf :: tb_M_fault :: tb_M_standsAt :: tb_M_covers :: tb_M_shotBy :: ts) := ⟨ek_156, ⟨ek_157, ⟨ek_158, ⟨ek_159, ⟨ek_160, ⟨ek_161, ⟨ek_162, ⟨ek_163, ⟨ek_164, ⟨ek_165, ⟨ek_166, ⟨ek_167, h⟩⟩⟩⟩⟩⟩⟩⟩⟩⟩⟩⟩
theorem ag_14 (ts : List (List (Nat × EN))) (h : allOK 180 ts) : allOK 168 (tb_M_overBy :: tb_M_asNow :: tb_M_isOver :: tb_M_grasp :: tb_M_letGo :: tb_M_slideBy :: tb_M_whyNot :: tb_M_passTo :: tb_M_passOver :: tb_M_shoot :: tb_M_throwIn :: tb_M_endTenth :: ts) := ⟨ek_168, ⟨ek_169, ⟨ek_170, ⟨ek_171, ⟨ek_172, ⟨ek_173, ⟨ek_174, ⟨ek_175, ⟨ek_176, ⟨ek_177, ⟨ek_178, ⟨ek_179, h⟩⟩⟩⟩⟩⟩⟩⟩⟩⟩⟩⟩
theorem ag_15 (ts : List (List (Nat × EN))) (h : allOK 192 ts) : allOK 180 (tb_M_rodAct :: tb_M_nextAct :: tb_M_goEvenings :: tb_M_judge :: tb_M_barOfEvenings :: tb_M_done :: tb_M_behind :: tb_M_then :: tb_M_ends :: tb_M_allIn :: tb_M_goesIn :: tb_M_passes :: ts) := ⟨ek_180, ⟨ek_181, ⟨ek_182, ⟨ek_183, ⟨ek_184, ⟨ek_185, ⟨ek_186, ⟨ek_187, ⟨ek_188, ⟨ek_189, ⟨ek_190, ⟨ek_191, h⟩⟩⟩⟩⟩⟩⟩⟩⟩⟩⟩⟩
theorem ag_16 (ts : List (List (Nat × EN))) (h : allOK 204 ts) : allOK 192 (tb_M_path :: tb_M_stand :: tb_M_lowest :: tb_M_mix :: tb_M_hands :: tb_M_power :: tb_M_truly :: tb_M_race :: tb_M_seen :: tb_M_forget :: tb_M_sideAt :: tb_M_isFit :: ts) := ⟨ek_192, ⟨ek_193, ⟨ek_194, ⟨ek_195, ⟨ek_196, ⟨ek_197, ⟨ek_198, ⟨ek_199, ⟨ek_200, ⟨ek_201, ⟨ek_202, ⟨ek_203, h⟩⟩⟩⟩⟩⟩⟩⟩⟩⟩⟩⟩
theorem ag_17 (ts : List (List (Nat × EN))) (h : allOK 216 ts) : allOK 204 (tb_M_fits :: tb_M_ask :: tb_M_year :: tb_M_image :: tb_M_restore :: tb_M_told :: tb_Integer_bitCount :: tb_Math_floorMod :: tb_Math_abs :: tb_Math_max :: tb_Math_min :: tb_Law_law :: ts) := ⟨ek_204, ⟨ek_205, ⟨ek_206, ⟨ek_207, ⟨ek_208, ⟨ek_209, ⟨ek_210, ⟨ek_211, ⟨ek_212, ⟨ek_213, ⟨ek_214, ⟨ek_215, h⟩⟩⟩⟩⟩⟩⟩⟩⟩⟩⟩⟩
set_option maxRecDepth 100000 in
theorem all_OK : allOK 0 TBL := (ag_0 _ (ag_1 _ (ag_2 _ (ag_3 _ (ag_4 _ (ag_5 _ (ag_6 _ (ag_7 _ (ag_8 _ (ag_9 _ (ag_10 _ (ag_11 _ (ag_12 _ (ag_13 _ (ag_14 _ (ag_15 _ (ag_16 _ (ag_17 _ trivial))))))))))))))))))
theorem code_ok {m pc : Nat} {e : EN} (h : code_ m pc = some e) : eok m (pc, e) = true := by
  unfold code_ at h
  cases ht : TBL[m]? with
  | none => rw [ht] at h; simp at h
  | some t =>
    rw [ht] at h
    have h1 := allOK_get TBL 0 m t all_OK ht (pc, e) (lookup_mem _ h)
    rwa [Nat.zero_add] at h1
end
section
-- one step of the small machine is a step of the machine
def isU : MV → Bool
  | .inr (.inr (.inr (.inr _))) => true
  | _ => false
def lvl (B : Nat) (sd : Nat → Nat) (ls : List MV) : List (Nat × Value) := (List.range ls.length).filterMap (fun i => match ls[i]? with
  | some v => if isU v then none else some (i, cv B sd v)
  | none => none)
theorem lvl_mem {B : Nat} {sd : Nat → Nat} {ls : List MV} {q : Nat × Value} : q ∈ lvl B sd ls ↔ ∃ v, ls[q.1]? = some v ∧ isU v = false ∧ q.2 = cv B sd v := by
  unfold lvl
  rw [List.mem_filterMap]
  constructor
  · rintro ⟨i, -, h⟩
    cases hv : ls[i]? with
    | none => rw [hv] at h; cases h
    | some v =>
      rw [hv] at h
      dsimp only at h
      cases hu : isU v with
      | true => rw [hu] at h; simp at h
      | false =>
        rw [hu] at h
        simp at h
        subst h
        exact ⟨v, hv, hu, rfl⟩
  · rintro ⟨v, h1, h2, h3⟩
    refine ⟨q.1, List.mem_range.mpr (List.getElem?_eq_some_iff.mp h1).1, ?_⟩
    rw [h1]
    dsimp only
    rw [h2, ← h3]
    rfl
def LH (B : Nat) (sd : Nat → Nat) (lsA : Array Slot) (nL : Nat) (ls : List MV) : Prop := ls.length = nL ∧ lv_has lsA nL (lvl B sd ls)
theorem LH.get {B : Nat} {sd : Nat → Nat} {lsA : Array Slot} {nL : Nat} {ls : List MV} {i : Nat} {v : MV} (h : LH B sd lsA nL ls) (hi : ls[i]? = some v) (hu : isU v = false) : lsA[i]? = some (.val (cv B sd v)) := h.2.2.2 (i, cv B sd v) (lvl_mem.mpr ⟨v, hi, hu, rfl⟩)
theorem cv_cat (B : Nat) (sd : Nat → Nat) (v : MV) : (cv B sd v).category = mcat v := by
  rcases v with z | z | k | k | b <;> rfl
theorem mClean_len (ls : List MV) (k : Nat) : (mClean ls k).length = ls.length := by
  unfold mClean
  split
  · rfl
  · split
    · rw [List.length_set]
    · rfl
theorem mClean_get {ls : List MV} {k j : Nat} {v : MV} (h : (mClean ls k)[j]? = some v) (hu : isU v = false) : ls[j]? = some v ∧ (j + 1 = k → mcat v ≠ 2) := by
  unfold mClean at h
  split at h
  · exact ⟨h, fun z => by omega⟩
  · next i =>
    split at h
    · next z hz =>
      by_cases hj : i = j
      · subst hj
        have hl : i < ls.length := (List.getElem?_eq_some_iff.mp hz).1
        rw [List.getElem?_set_self hl] at h
        cases h
        simp [isU] at hu
      · rw [List.getElem?_set_ne hj] at h
        exact ⟨h, fun z => by omega⟩
    · next hz =>
      refine ⟨h, fun hj hc => ?_⟩
      have hij : j = i := by omega
      subst hij
      rcases v with z | z | k | k | b
      · simp [mcat] at hc
      · exact hz z h
      · simp [mcat] at hc
      · simp [mcat] at hc
      · simp [mcat] at hc
theorem mSt1_len (ls : List MV) (k : Nat) (v : MV) : (mSt1 ls k v).length = ls.length := by unfold mSt1; rw [List.length_set, mClean_len]
theorem mSt2_len (ls : List MV) (k : Nat) (v : MV) : (mSt2 ls k v).length = ls.length := by unfold mSt2; rw [List.length_set, List.length_set, mClean_len]
theorem LH.st1 {B : Nat} {sd : Nat → Nat} {lsA lsB : Array Slot} {nL : Nat} {ls : List MV} {k : Nat} {v : MV} (h : LH B sd lsA nL ls) (h' : lv_has lsB nL ((k, cv B sd v) :: (lvl B sd ls).filter (fun q => !(q.1 == k) && !(q.1 + 1 == k && q.2.category == 2)))) : LH B sd lsB nL (mSt1 ls k v) := by
  refine ⟨by rw [mSt1_len]; exact h.1, h'.1, h'.2.1, fun q hq => h'.2.2 q ?_⟩
  obtain ⟨i, val⟩ := q
  obtain ⟨w, hw, hu, he⟩ := lvl_mem.mp hq
  dsimp only at hw he
  subst he
  unfold mSt1 at hw
  by_cases hk : k = i
  · subst hk
    have hl := (List.getElem?_eq_some_iff.mp hw).1
    rw [List.length_set] at hl
    rw [List.getElem?_set_self hl] at hw
    cases hw
    exact List.mem_cons_self
  · rw [List.getElem?_set_ne hk] at hw
    obtain ⟨h1, h2⟩ := mClean_get hw hu
    refine List.mem_cons_of_mem _ (List.mem_filter.mpr ⟨lvl_mem.mpr ⟨w, h1, hu, rfl⟩, ?_⟩)
    have e1 : (i == k) = false := by simp; exact fun z => hk z.symm
    dsimp only
    rw [cv_cat, e1]
    by_cases hj : i + 1 = k
    · have := h2 hj
      simp [this]
    · simp [hj]
theorem LH.st2 {B : Nat} {sd : Nat → Nat} {lsA lsB : Array Slot} {nL : Nat} {ls : List MV} {k : Nat} {v : MV} (h : LH B sd lsA nL ls) (h' : lv_has lsB nL ((k, cv B sd v) :: (lvl B sd ls).filter (fun q => !(q.1 == k) && (!(q.1 == k + 1) && !(q.1 + 1 == k && q.2.category == 2))))) : LH B sd lsB nL (mSt2 ls k v) := by
  refine ⟨by rw [mSt2_len]; exact h.1, h'.1, h'.2.1, fun q hq => h'.2.2 q ?_⟩
  obtain ⟨i, val⟩ := q
  obtain ⟨w, hw, hu, he⟩ := lvl_mem.mp hq
  dsimp only at hw he
  subst he
  unfold mSt2 at hw
  by_cases hk : k = i
  · subst hk
    have hl := (List.getElem?_eq_some_iff.mp hw).1
    rw [List.length_set] at hl
    rw [List.getElem?_set_self hl] at hw
    cases hw
    exact List.mem_cons_self
  · rw [List.getElem?_set_ne hk] at hw
    by_cases hk1 : k + 1 = i
    · subst hk1
      have hl := (List.getElem?_eq_some_iff.mp hw).1
      rw [List.length_set] at hl
      rw [List.getElem?_set_self hl] at hw
      cases hw
      simp [isU] at hu
    · rw [List.getElem?_set_ne hk1] at hw
      obtain ⟨h1, h2⟩ := mClean_get hw hu
      refine List.mem_cons_of_mem _ (List.mem_filter.mpr ⟨lvl_mem.mpr ⟨w, h1, hu, rfl⟩, ?_⟩)
      have e1 : (i == k) = false := by simp; exact fun z => hk z.symm
      have e2 : (i == k + 1) = false := by simp; exact fun z => hk1 z.symm
      dsimp only
      rw [cv_cat, e1, e2]
      by_cases hj : i + 1 = k
      · have := h2 hj
        simp [this]
      · simp [hj]
def EnvU (D : va_G) (K : Nat → ClassId) (B : Nat) (sd : Nat → Nat) (xs : List Int) (U : State) : Prop :=
  va_K D CL [(K 0, .int), (K 1, .long), (K 2, .boolean)] U ∧ (∀ k n, SNm[k]? = some n → va_Z SOW n "[I" (.ref (sd k)) (AB B) U U.heap) ∧ (∀ k, k < 4 → va_T .int (sd k) (SA xs k).length (fun j => .int (fI (SA xs k) j)) (AB B) U U.heap) ∧ ∀ q ∈ NST, va_Nw (.methodLinkNest (cnm q.1) q.2.1 (yM q.2.2.1) q.2.2.2) U
theorem EnvU.moved {D : va_G} {K : Nat → ClassId} {B : Nat} {sd : Nat → Nat} {xs : List Int} {s U : State} (h : EnvU D K B sd xs s) (hW : s.WarmedH U.vm) (hk : ∀ a : Nat, a < s.heap.size → ¬ AB B a → U.heap[a]? = s.heap[a]?) : EnvU D K B sd xs U :=
  ⟨va_K.moved hW.alike h.1, fun k n hn => (va_Z.moved hW.alike (h.2.1 k n hn)).kept hk, fun k hk4 => (va_T.moved hW.alike (h.2.2.1 k hk4)).kept hk, fun q hq => va_Nw.warmM hW (h.2.2.2 q hq)⟩
def Bd (p : Program) (s : State) (m : MethodId) (args : Array Value) (meth : Method) (c : Code) (mi : Nat) (D : va_G) (K : Nat → ClassId) (B : Nat) (sd : Nat → Nat) (xs : List Int) : Prop :=
  p.tables.exec = Jvm.exec ∧ c.code = byM mi ∧ c.maxLocals = mxM mi ∧ s.vm.findClass (cnm (clsM mi)) = some m.cls ∧ (∀ w ∈ ALL, w.before args s = true) ∧ ((yM mi).name = "<init>" → meth.name = "<init>") ∧ EnvU D K B sd xs s ∧ B ≤ s.heap.size
theorem eok_len {m pc np a b : Nat} {I : Instr} {c : Int} (h : eok m (pc, I, np, a, b, c) = true) (hs : isSw I = false) : np = pc + lenI I ∧ decode (byM m) pc = .ok (I, lenI I) := by
  simp only [eok, Bool.and_eq_true, Bool.or_eq_true, decide_eq_true_eq, hs, Bool.false_eq_true, false_or] at h
  obtain ⟨⟨⟨h1, h2⟩, h3⟩, -⟩ := h
  refine ⟨h3, ?_⟩
  rw [h1, h3, Nat.add_sub_cancel_left]
theorem eok_dec {m pc np a b : Nat} {I : Instr} {c : Int} (h : eok m (pc, I, np, a, b, c) = true) : decode (byM m) pc = .ok (I, np - pc) := by
  simp only [eok, Bool.and_eq_true, decide_eq_true_eq] at h
  exact h.1.1.1
theorem eok_x {m pc np a b : Nat} {I : Instr} {c : Int} (h : eok m (pc, I, np, a, b, c) = true) : eokX m pc I a b c = true := by
  simp only [eok, Bool.and_eq_true] at h
  exact h.2
theorem s1_some {α : Type} {st : List MV} {f : Int → List MV → Option α} {v : α} (h : s1 st f = some v) : ∃ x r, st = vI x :: r ∧ f x r = some v := by
  unfold s1 at h
  split at h
  · exact ⟨_, _, rfl, h⟩
  · cases h
theorem s2_some {α : Type} {st : List MV} {f : Int → Int → List MV → Option α} {v : α} (h : s2 st f = some v) : ∃ x y r, st = vI y :: vI x :: r ∧ f x y r = some v := by
  unfold s2 at h
  split at h
  · exact ⟨_, _, _, rfl, h⟩
  · cases h
theorem l1_some {α : Type} {st : List MV} {f : Int → List MV → Option α} {v : α} (h : l1 st f = some v) : ∃ x r, st = vL x :: r ∧ f x r = some v := by
  unfold l1 at h
  split at h
  · exact ⟨_, _, rfl, h⟩
  · cases h
theorem l2_some {α : Type} {st : List MV} {f : Int → Int → List MV → Option α} {v : α} (h : l2 st f = some v) : ∃ x y r, st = vL y :: vL x :: r ∧ f x y r = some v := by
  unfold l2 at h
  split at h
  · exact ⟨_, _, _, rfl, h⟩
  · cases h
theorem some4 {a a' : Nat} {b b' c c' : List MV} {d d' : MH} (h : (some (a, b, c, d) : SR) = some (a', b', c', d')) : a = a' ∧ b = b' ∧ c = c' ∧ d = d' := by
  simp only [Option.some.injEq, Prod.mk.injEq] at h
  exact h
theorem if_some {P : Prop} [h9 : Decidable P] {x : SR} {v : Nat × List MV × List MV × MH} (h : (if P then x else none) = some v) : P ∧ x = some v := by
  by_cases hp : P
  · rw [if_pos hp] at h; exact ⟨hp, h⟩
  · rw [if_neg hp] at h; cases h
theorem CL_get {a : Nat} {C : String} {T : u_T} {N : Nat} (h : CL[a]? = some (C, T, N)) : (∀ k, k < N → parseFieldDescriptor (T k).2.2.1 = some (tyC a k)) ∧ (∀ x, x < N → ∀ y, y < N → x ≠ y → (T x).2.1 ≠ (T y).2.1) ∧ cnm a = C ∧ nfC a = N := by
  match a, h with

  | 0, h => cases h; exact ⟨tyX1_ok, nmX1, rfl, rfl⟩
  | 1, h => cases h; exact ⟨tyX2_ok, nmX2, rfl, rfl⟩
  | 2, h => cases h; exact ⟨tyX4_ok, nmX4, rfl, rfl⟩
  | 3, h => cases h; exact ⟨tyX5_ok, nmX5, rfl, rfl⟩
  | 4, h => cases h; exact ⟨tyX6_ok, nmX6, rfl, rfl⟩
  | 5, h => cases h; exact ⟨tyX8_ok, nmX8, rfl, rfl⟩
  | 6, h => cases h; exact ⟨tyX9_ok, nmX9, rfl, rfl⟩
  | 7, h => cases h; exact ⟨tyX10_ok, nmX10, rfl, rfl⟩
  | 8, h => cases h; exact ⟨tyX11_ok, nmX11, rfl, rfl⟩
  | n + 9, h => simp [CL] at h
theorem CL_in {a : Nat} {C : String} {T : u_T} {N : Nat} (h : CL[a]? = some (C, T, N)) : ∀ w ∈ u_ws C T N, w ∈ ALL := by
  intro w hw
  unfold ALL
  refine List.mem_append_right _ (List.mem_append_right _ (List.mem_append_right _ (List.mem_append_left _ ?_)))
  exact List.mem_flatMap.mpr ⟨(C, T, N), List.mem_of_getElem? h, hw⟩
theorem FT_lt : ∀ q ∈ FT, q.2.2.2 < nfC q.2.2.1 ∧ q.2.2.1 < 9 := by decide +kernel
theorem FT_in {o ix a b : Nat} {C : String} {T : u_T} {N : Nat} (hc : CL[a]? = some (C, T, N)) (h : (o, ix, a, b) ∈ FT) : Jvm.Cond.fieldLink (cnm o) ix (T b).1 (T b).2.1 (T b).2.2.1 ∈ ALL := by
  unfold ALL
  refine List.mem_append_right _ (List.mem_append_right _ (List.mem_append_left _ ?_))
  refine List.mem_map.mpr ⟨_, h, ?_⟩
  simp only [fwC, hc]
theorem NT_in {o ix a : Nat} (h : (o, ix, a) ∈ NT) : Jvm.Cond.classLink (cnm o) ix (cnm a) ∈ ALL ∧ Jvm.Cond.instantiable (cnm a) (nfC a) ∈ ALL := by
  have key : ∀ w ∈ nwC (o, ix, a), w ∈ ALL := by
    intro w hw
    unfold ALL
    exact List.mem_append_right _ (List.mem_append_right _ (List.mem_append_right _ (List.mem_append_right _ (List.mem_append_right _ (List.mem_append_left _ (List.mem_flatMap.mpr ⟨_, h, hw⟩))))))
  exact ⟨key _ (by simp [nwC]), key _ (by simp [nwC])⟩
theorem NT_lt : ∀ q ∈ NT, q.2.2 < 9 := by decide +kernel
theorem CN_in {o : Nat} (h : o < 15) : Jvm.Cond.initialized (cnm o) ∈ ALL := by
  have h1 : ∃ n, CN[o]? = some n := ⟨_, List.getElem?_eq_getElem (by exact h)⟩
  obtain ⟨n, hn⟩ := h1
  unfold ALL
  refine List.mem_append_right _ (List.mem_append_left _ (List.mem_map.mpr ⟨n, List.mem_of_getElem? hn, ?_⟩))
  unfold cnm
  rw [hn]
  rfl
theorem CT_in {o ix : Nat} {v : Int} (h : (o, ix, v) ∈ CT) : Jvm.Cond.constant (cnm o) ix (Int32.ofInt v) ∈ ALL := by
  unfold ALL
  exact List.mem_append_right _ (List.mem_append_right _ (List.mem_append_right _ (List.mem_append_right _ (List.mem_append_right _ (List.mem_append_right _ (List.mem_append_left _ (List.mem_map.mpr ⟨_, h, rfl⟩)))))))
theorem LT_in {o ix : Nat} {v : Int} (h : (o, ix, v) ∈ LT) : Jvm.Cond.constantLong (cnm o) ix (Int64.ofInt v) ∈ ALL := by
  unfold ALL
  exact List.mem_append_right _ (List.mem_append_right _ (List.mem_append_right _ (List.mem_append_right _ (List.mem_append_right _ (List.mem_append_right _ (List.mem_append_right _ (List.mem_append_left _ (List.mem_map.mpr ⟨_, h, rfl⟩))))))))
theorem ST_in {o ix k : Nat} (h : (o, ix, k) ∈ ST) : Jvm.Cond.fieldLink (cnm o) ix SOW ((SNm[k]?).getD "") "[I" ∈ ALL := by
  unfold ALL
  exact List.mem_append_right _ (List.mem_append_right _ (List.mem_append_right _ (List.mem_append_right _ (List.mem_append_right _ (List.mem_append_right _ (List.mem_append_right _ (List.mem_append_right _ (List.mem_append_left _ (List.mem_map.mpr ⟨_, h, rfl⟩)))))))))
theorem ST_lt : ∀ q ∈ ST, q.2.2 < 3 := by decide +kernel
theorem AR_in {t : FieldType} (h : t = .int ∨ t = .long ∨ t = .boolean) : Jvm.Cond.arrayClass t ∈ ALL := by
  unfold ALL
  refine List.mem_append_right _ (List.mem_append_right _ (List.mem_append_right _ (List.mem_append_right _ (List.mem_append_right _ (List.mem_append_right _ (List.mem_append_right _ (List.mem_append_right _ (List.mem_append_right _ (List.mem_append_left _ ?_)))))))))
  unfold A_arr
  rcases h with rfl | rfl | rfl <;> simp
theorem dfC_ok (B : Nat) (sd : Nat → Nat) : ∀ a, a < 9 → ∀ j, j < nfC a → defaultValue (tyC a j) = vp_V ((dfC a).map (cv B sd)) j := by
  intro a ha j hj
  have h1 : ∀ a, a < 9 → ∀ j, j < nfC a → tyC a j = .int ∨ tyC a j = .boolean ∨ (∃ n, tyC a j = .object n) ∨ (∃ n, tyC a j = .array n) := by
    intro a ha j hj
    have h2 : ∀ a, a < 9 → ∀ j, j < nfC a → (match tyC a j with | .int => true | .boolean => true | .object _ => true | .array _ => true | _ => false) = true := by decide +kernel
    have h3 := h2 a ha j hj
    generalize tyC a j = t at h3 ⊢
    cases t <;> simp at h3 ⊢
  have h4 : (dfC a)[j]? = some (dfT (tyC a j)) := by
    unfold dfC
    rw [List.getElem?_map, List.getElem?_range hj]
    rfl
  have h5 : ((dfC a).map (cv B sd)).getD j .null = cv B sd (dfT (tyC a j)) := by
    rw [List.getD_eq_getElem?_getD, List.getElem?_map, h4]
    rfl
  unfold vp_V
  rw [h5]
  rcases h1 a ha j hj with h | h | ⟨n, h⟩ | ⟨n, h⟩ <;> rw [h] <;> rfl
theorem nb0 : narrow .boolean (.int (Int32.ofInt 0)) = .int (Int32.ofInt 0) := by decide
theorem nb1 : narrow .boolean (.int (Int32.ofInt 1)) = .int (Int32.ofInt 1) := by decide
theorem fb0 : fits .boolean (.int (Int32.ofInt 0)) = true := by decide
theorem fb1 : fits .boolean (.int (Int32.ofInt 1)) = true := by decide
section SND
variable {p : Program} {l : Launch} {e : Env} {R : Room} {s : State} {m : MethodId} {args : Array Value} {below : List Frame} {meth : Method} {c : Code} {Q : State → Prop}
variable {D : va_G} {K : Nat → ClassId} {B : Nat} {sd : Nat → Nat} {xs : List Int} {mi nL h0l h0s : Nat}
/-- from every state of the machine that shows this state of the small one, the goal is reached -/
def WG (p : Program) (l : Launch) (e : Env) (R : Room) (s : State) (m : MethodId) (args : Array Value) (below : List Frame) (meth : Method) (c : Code) (Q : State → Prop) (D : va_G) (K : Nat → ClassId) (B : Nat) (sd : Nat → Nat) (nL h0l h0s : Nat) (pc : Nat) (ls st : List MV) (h : MH) : Prop :=
  ∀ (H : Heap) (locs : List Loc) (lsA : Array Slot) (k j : Nat), h.length = h0l + k → slt h = h0s + j → va_P D CL (wd K B sd h) H → H.size = B + h.length → va_S (AB B) s.heap H locs → LH B sd lsA nL ls → W p l e R s m args below meth c H locs k j Q (F0 m pc lsA (st.map (cv B sd)))

def fam1 : Instr → Bool
  | .iconst _ => true
  | .bipush _ => true
  | .sipush _ => true
  | .ldc _ => true
  | .ldc_w _ => true
  | .ldc2_w _ => true
  | .lconst _ => true
  | .iload _ => true
  | .iload_n _ => true
  | .lload _ => true
  | .lload_n _ => true
  | .aload _ => true
  | .aload_n _ => true
  | _ => false

set_option maxHeartbeats 4000000 in
theorem step_1 (bd : Bd p s m args meth c mi D K B sd xs) {pc pc' np a b : Nat} {cst : Int} {I : Instr} {ls ls' st st' : List MV} {h h1 : MH} (hI : fam1 I = true) (hc : code_ mi pc = some (I, np, a, b, cst)) (hs : sstep xs pc (I, np, a, b, cst) ls st h = some (pc', ls', st', h1)) (hcap : h1.length ≤ h0l + R.cells ∧ slt h1 ≤ h0s + R.slots) (k1 : WG p l e R s m args below meth c Q D K B sd nL h0l h0s pc' ls' st' h1) : WG p l e R s m args below meth c Q D K B sd nL h0l h0s pc ls st h := by
  obtain ⟨hx, hb, hml, hown, hts, hnm, hE, hB⟩ := bd
  have hok := code_ok hc
  have hX := eok_x hok
  intro H locs lsA k j hk hj hP hz hS hL
  have kk := fun (H : Heap) (locs : List Loc) (lsA : Array Slot) (k j : Nat) => k1 H locs lsA k j
  cases I with
  | iconst n =>
    simp only [sstep] at hs
    obtain ⟨hn, hd⟩ := eok_len hok rfl
    subst hn
    obtain ⟨rfl, rfl, rfl, rfl⟩ := some4 hs
    exact lv_iconst hx hb hd rfl (kk H locs lsA k j hk hj hP hz hS hL)
  | bipush n =>
    simp only [sstep] at hs
    obtain ⟨hn, hd⟩ := eok_len hok rfl
    subst hn
    obtain ⟨rfl, rfl, rfl, rfl⟩ := some4 hs
    exact lv_bipush hx hb hd (n_byte n (by simpa [eokX] using hX)) (kk H locs lsA k j hk hj hP hz hS hL)
  | sipush n =>
    simp only [sstep] at hs
    obtain ⟨hn, hd⟩ := eok_len hok rfl
    subst hn
    obtain ⟨rfl, rfl, rfl, rfl⟩ := some4 hs
    exact lv_sipush hx hb hd (n_short n (by simpa [eokX] using hX)) (kk H locs lsA k j hk hj hP hz hS hL)
  | ldc ix =>
    simp only [sstep] at hs
    obtain ⟨hn, hd⟩ := eok_len hok rfl
    subst hn
    obtain ⟨rfl, rfl, rfl, rfl⟩ := some4 hs
    exact lv_ldc hx hb hown (hts _ (CT_in (by simpa [eokX] using hX))) hd (kk H locs lsA k j hk hj hP hz hS hL)
  | ldc_w ix =>
    simp only [sstep] at hs
    obtain ⟨hn, hd⟩ := eok_len hok rfl
    subst hn
    obtain ⟨rfl, rfl, rfl, rfl⟩ := some4 hs
    exact lv_ldcw hx hb hown (hts _ (CT_in (by simpa [eokX] using hX))) hd (kk H locs lsA k j hk hj hP hz hS hL)
  | ldc2_w ix =>
    simp only [sstep] at hs
    obtain ⟨hn, hd⟩ := eok_len hok rfl
    subst hn
    obtain ⟨rfl, rfl, rfl, rfl⟩ := some4 hs
    exact lv_ldc2 hx hb hown (hts _ (LT_in (by simpa [eokX] using hX))) hd (kk H locs lsA k j hk hj hP hz hS hL)
  | lconst n =>
    simp only [sstep] at hs
    obtain ⟨hn, hd⟩ := eok_len hok rfl
    subst hn
    obtain ⟨rfl, rfl, rfl, rfl⟩ := some4 hs
    exact lv_lconst hx hb hd (by match n with
      | 0 => rfl
      | 1 => rfl) (kk H locs lsA k j hk hj hP hz hS hL)
  | iload k9 =>
    simp only [sstep] at hs
    obtain ⟨hn, hd⟩ := eok_len hok rfl
    subst hn
    unfold ldI at hs
    split at hs
    · next x hx9 =>
      obtain ⟨rfl, rfl, rfl, rfl⟩ := some4 hs
      exact lv_iload hx hb hd (hL.get hx9 rfl) (kk H locs lsA k j hk hj hP hz hS hL)
    · cases hs
  | iload_n k9 =>
    simp only [sstep] at hs
    obtain ⟨hn, hd⟩ := eok_len hok rfl
    subst hn
    unfold ldI at hs
    split at hs
    · next x hx9 =>
      obtain ⟨rfl, rfl, rfl, rfl⟩ := some4 hs
      exact lv_iload_n hx hb hd rfl (hL.get hx9 rfl) (kk H locs lsA k j hk hj hP hz hS hL)
    · cases hs
  | lload k9 =>
    simp only [sstep] at hs
    obtain ⟨hn, hd⟩ := eok_len hok rfl
    subst hn
    unfold ldL at hs
    split at hs
    · next x hx9 =>
      obtain ⟨rfl, rfl, rfl, rfl⟩ := some4 hs
      exact lv_lload hx hb hd (hL.get hx9 rfl) (kk H locs lsA k j hk hj hP hz hS hL)
    · cases hs
  | lload_n k9 =>
    simp only [sstep] at hs
    obtain ⟨hn, hd⟩ := eok_len hok rfl
    subst hn
    unfold ldL at hs
    split at hs
    · next x hx9 =>
      obtain ⟨rfl, rfl, rfl, rfl⟩ := some4 hs
      exact lv_lload_n hx hb hd rfl (hL.get hx9 rfl) (kk H locs lsA k j hk hj hP hz hS hL)
    · cases hs
  | aload k9 =>
    simp only [sstep] at hs
    obtain ⟨hn, hd⟩ := eok_len hok rfl
    subst hn
    unfold ldA at hs
    split at hs
    · next x hx9 =>
      obtain ⟨rfl, rfl, rfl, rfl⟩ := some4 hs
      exact lv_aload hx hb hd (hL.get hx9 rfl) (kk H locs lsA k j hk hj hP hz hS hL)
    · next x hx9 =>
      obtain ⟨rfl, rfl, rfl, rfl⟩ := some4 hs
      exact lv_aload hx hb hd (hL.get hx9 rfl) (kk H locs lsA k j hk hj hP hz hS hL)
    · cases hs
  | aload_n k9 =>
    simp only [sstep] at hs
    obtain ⟨hn, hd⟩ := eok_len hok rfl
    subst hn
    unfold ldA at hs
    split at hs
    · next x hx9 =>
      obtain ⟨rfl, rfl, rfl, rfl⟩ := some4 hs
      exact lv_aload_n hx hb hd rfl (hL.get hx9 rfl) (kk H locs lsA k j hk hj hP hz hS hL)
    · next x hx9 =>
      obtain ⟨rfl, rfl, rfl, rfl⟩ := some4 hs
      exact lv_aload_n hx hb hd rfl (hL.get hx9 rfl) (kk H locs lsA k j hk hj hP hz hS hL)
    · cases hs
  | _ => exact absurd hI (by simp [fam1])

def fam2 : Instr → Bool
  | .istore _ => true
  | .istore_n _ => true
  | .lstore _ => true
  | .lstore_n _ => true
  | .astore _ => true
  | .astore_n _ => true
  | .iinc _ _ => true
  | _ => false

set_option maxHeartbeats 4000000 in
theorem step_2 (bd : Bd p s m args meth c mi D K B sd xs) {pc pc' np a b : Nat} {cst : Int} {I : Instr} {ls ls' st st' : List MV} {h h1 : MH} (hI : fam2 I = true) (hc : code_ mi pc = some (I, np, a, b, cst)) (hs : sstep xs pc (I, np, a, b, cst) ls st h = some (pc', ls', st', h1)) (hcap : h1.length ≤ h0l + R.cells ∧ slt h1 ≤ h0s + R.slots) (k1 : WG p l e R s m args below meth c Q D K B sd nL h0l h0s pc' ls' st' h1) : WG p l e R s m args below meth c Q D K B sd nL h0l h0s pc ls st h := by
  obtain ⟨hx, hb, hml, hown, hts, hnm, hE, hB⟩ := bd
  have hok := code_ok hc
  have hX := eok_x hok
  intro H locs lsA k j hk hj hP hz hS hL
  have kk := fun (H : Heap) (locs : List Loc) (lsA : Array Slot) (k j : Nat) => k1 H locs lsA k j
  cases I with
  | istore k9 =>
    simp only [sstep] at hs
    obtain ⟨hn, hd⟩ := eok_len hok rfl
    subst hn
    unfold stI at hs
    split at hs
    · next x r9 =>
      obtain ⟨hlt, hs⟩ := if_some hs
      rw [hL.1] at hlt
      obtain ⟨rfl, rfl, rfl, rfl⟩ := some4 hs
      exact lv_istore hx hb hd hL.2 hlt rfl (fun lsB hB9 => kk H locs lsB k j hk hj hP hz hS (hL.st1 hB9))
    · cases hs
  | istore_n k9 =>
    simp only [sstep] at hs
    obtain ⟨hn, hd⟩ := eok_len hok rfl
    subst hn
    unfold stI at hs
    split at hs
    · next x r9 =>
      obtain ⟨hlt, hs⟩ := if_some hs
      rw [hL.1] at hlt
      obtain ⟨rfl, rfl, rfl, rfl⟩ := some4 hs
      exact lv_istore_n hx hb hd rfl hL.2 hlt rfl (fun lsB hB9 => kk H locs lsB k j hk hj hP hz hS (hL.st1 hB9))
    · cases hs
  | lstore k9 =>
    simp only [sstep] at hs
    obtain ⟨hn, hd⟩ := eok_len hok rfl
    subst hn
    unfold stL at hs
    split at hs
    · next x r9 =>
      obtain ⟨hlt, hs⟩ := if_some hs
      rw [hL.1] at hlt
      obtain ⟨rfl, rfl, rfl, rfl⟩ := some4 hs
      exact lv_lstore hx hb hd hL.2 hlt rfl (fun lsB hB9 => kk H locs lsB k j hk hj hP hz hS (hL.st2 hB9))
    · cases hs
  | lstore_n k9 =>
    simp only [sstep] at hs
    obtain ⟨hn, hd⟩ := eok_len hok rfl
    subst hn
    unfold stL at hs
    split at hs
    · next x r9 =>
      obtain ⟨hlt, hs⟩ := if_some hs
      rw [hL.1] at hlt
      obtain ⟨rfl, rfl, rfl, rfl⟩ := some4 hs
      exact lv_lstore_n hx hb hd rfl hL.2 hlt rfl (fun lsB hB9 => kk H locs lsB k j hk hj hP hz hS (hL.st2 hB9))
    · cases hs
  | astore k9 =>
    simp only [sstep] at hs
    obtain ⟨hn, hd⟩ := eok_len hok rfl
    subst hn
    unfold stA at hs
    split at hs
    · next x r9 =>
      obtain ⟨hlt, hs⟩ := if_some hs
      rw [hL.1] at hlt
      obtain ⟨rfl, rfl, rfl, rfl⟩ := some4 hs
      exact lv_astore hx hb hd hL.2 hlt rfl (fun lsB hB9 => kk H locs lsB k j hk hj hP hz hS (hL.st1 hB9))
    · cases hs
  | astore_n k9 =>
    simp only [sstep] at hs
    obtain ⟨hn, hd⟩ := eok_len hok rfl
    subst hn
    unfold stA at hs
    split at hs
    · next x r9 =>
      obtain ⟨hlt, hs⟩ := if_some hs
      rw [hL.1] at hlt
      obtain ⟨rfl, rfl, rfl, rfl⟩ := some4 hs
      exact lv_astore_n hx hb hd rfl hL.2 hlt rfl (fun lsB hB9 => kk H locs lsB k j hk hj hP hz hS (hL.st1 hB9))
    · cases hs
  | iinc k9 n =>
    simp only [sstep] at hs
    obtain ⟨hn, hd⟩ := eok_len hok rfl
    subst hn
    split at hs
    · next x hx9 =>
      obtain ⟨rfl, rfl, rfl, rfl⟩ := some4 hs
      have hlt : k9 < nL := by rw [← hL.1]; exact (List.getElem?_eq_some_iff.mp hx9).1
      obtain ⟨i9, hi9⟩ := List.getElem?_of_mem (lvl_mem.mpr ⟨vI x, hx9, rfl, rfl⟩ : ((k9, cv B sd (vI x)) : Nat × Value) ∈ lvl B sd ls)
      exact lv_iinc hx hb hd hL.2 hi9 (n_add x n).symm hlt rfl (fun lsB hB9 => kk H locs lsB k j hk hj hP hz hS (hL.st1 hB9))
    · cases hs
  | _ => exact absurd hI (by simp [fam2])

def fam3 : Instr → Bool
  | .iadd => true
  | .isub => true
  | .imul => true
  | .iand => true
  | .ior => true
  | .ixor => true
  | .ishl => true
  | .ishr => true
  | .iushr => true
  | .idiv => true
  | .irem => true
  | .ineg => true
  | .i2l => true
  | .ladd => true
  | .lsub => true
  | .lmul => true
  | .ldiv => true
  | .lrem => true
  | .lneg => true
  | .lcmp => true
  | .dup => true
  | .dup2 => true
  | _ => false

set_option maxHeartbeats 4000000 in
theorem step_3 (bd : Bd p s m args meth c mi D K B sd xs) {pc pc' np a b : Nat} {cst : Int} {I : Instr} {ls ls' st st' : List MV} {h h1 : MH} (hI : fam3 I = true) (hc : code_ mi pc = some (I, np, a, b, cst)) (hs : sstep xs pc (I, np, a, b, cst) ls st h = some (pc', ls', st', h1)) (hcap : h1.length ≤ h0l + R.cells ∧ slt h1 ≤ h0s + R.slots) (k1 : WG p l e R s m args below meth c Q D K B sd nL h0l h0s pc' ls' st' h1) : WG p l e R s m args below meth c Q D K B sd nL h0l h0s pc ls st h := by
  obtain ⟨hx, hb, hml, hown, hts, hnm, hE, hB⟩ := bd
  have hok := code_ok hc
  have hX := eok_x hok
  intro H locs lsA k j hk hj hP hz hS hL
  have kk := fun (H : Heap) (locs : List Loc) (lsA : Array Slot) (k j : Nat) => k1 H locs lsA k j
  cases I with
  | iadd =>
    simp only [sstep] at hs
    obtain ⟨hn, hd⟩ := eok_len hok rfl
    subst hn
    obtain ⟨x, y, r, rfl, hs⟩ := s2_some hs
    obtain ⟨rfl, rfl, rfl, rfl⟩ := some4 hs
    refine lv_iadd hx hb hd ?_
    rw [← n_add]
    exact (kk H locs lsA k j hk hj hP hz hS hL)
  | isub =>
    simp only [sstep] at hs
    obtain ⟨hn, hd⟩ := eok_len hok rfl
    subst hn
    obtain ⟨x, y, r, rfl, hs⟩ := s2_some hs
    obtain ⟨rfl, rfl, rfl, rfl⟩ := some4 hs
    refine lv_isub hx hb hd ?_
    rw [← n_sub]
    exact (kk H locs lsA k j hk hj hP hz hS hL)
  | imul =>
    simp only [sstep] at hs
    obtain ⟨hn, hd⟩ := eok_len hok rfl
    subst hn
    obtain ⟨x, y, r, rfl, hs⟩ := s2_some hs
    obtain ⟨rfl, rfl, rfl, rfl⟩ := some4 hs
    refine lv_imul hx hb hd ?_
    rw [← n_mul]
    exact (kk H locs lsA k j hk hj hP hz hS hL)
  | iand =>
    simp only [sstep] at hs
    obtain ⟨hn, hd⟩ := eok_len hok rfl
    subst hn
    obtain ⟨x, y, r, rfl, hs⟩ := s2_some hs
    obtain ⟨rfl, rfl, rfl, rfl⟩ := some4 hs
    refine lv_iand hx hb hd ?_
    have q9 := kk H locs lsA k j hk hj hP hz hS hL
    simp only [List.map_cons, cv, bAnd, n_ofTo] at q9
    exact q9
  | ior =>
    simp only [sstep] at hs
    obtain ⟨hn, hd⟩ := eok_len hok rfl
    subst hn
    obtain ⟨x, y, r, rfl, hs⟩ := s2_some hs
    obtain ⟨rfl, rfl, rfl, rfl⟩ := some4 hs
    refine lv_ior hx hb hd ?_
    have q9 := kk H locs lsA k j hk hj hP hz hS hL
    simp only [List.map_cons, cv, bOr, n_ofTo] at q9
    exact q9
  | ixor =>
    simp only [sstep] at hs
    obtain ⟨hn, hd⟩ := eok_len hok rfl
    subst hn
    obtain ⟨x, y, r, rfl, hs⟩ := s2_some hs
    obtain ⟨rfl, rfl, rfl, rfl⟩ := some4 hs
    refine lv_ixor hx hb hd ?_
    have q9 := kk H locs lsA k j hk hj hP hz hS hL
    simp only [List.map_cons, cv, bXor, n_ofTo] at q9
    exact q9
  | ishl =>
    simp only [sstep] at hs
    obtain ⟨hn, hd⟩ := eok_len hok rfl
    subst hn
    obtain ⟨x, y, r, rfl, hs⟩ := s2_some hs
    obtain ⟨rfl, rfl, rfl, rfl⟩ := some4 hs
    refine lv_ishl hx hb hd ?_
    have q9 := kk H locs lsA k j hk hj hP hz hS hL
    simp only [List.map_cons, cv, bShl, n_ofTo] at q9
    exact q9
  | ishr =>
    simp only [sstep] at hs
    obtain ⟨hn, hd⟩ := eok_len hok rfl
    subst hn
    obtain ⟨x, y, r, rfl, hs⟩ := s2_some hs
    obtain ⟨rfl, rfl, rfl, rfl⟩ := some4 hs
    refine lv_ishr hx hb hd ?_
    have q9 := kk H locs lsA k j hk hj hP hz hS hL
    simp only [List.map_cons, cv, bShr, n_ofTo] at q9
    exact q9
  | iushr =>
    simp only [sstep] at hs
    obtain ⟨hn, hd⟩ := eok_len hok rfl
    subst hn
    obtain ⟨x, y, r, rfl, hs⟩ := s2_some hs
    obtain ⟨rfl, rfl, rfl, rfl⟩ := some4 hs
    refine lv_iushr hx hb hd rfl ?_
    have q9 := kk H locs lsA k j hk hj hP hz hS hL
    simp only [List.map_cons, cv, bUsh, n_ofTo] at q9
    exact q9
  | idiv =>
    simp only [sstep] at hs
    obtain ⟨hn, hd⟩ := eok_len hok rfl
    subst hn
    obtain ⟨x, y, r, rfl, hs⟩ := s2_some hs
    obtain ⟨⟨h7, h8, h9⟩, hs⟩ := if_some hs
    obtain ⟨rfl, rfl, rfl, rfl⟩ := some4 hs
    refine lv_idiv hx hb hd (n_nz h8 h9) ?_
    rw [← n_div h7 h8]
    exact (kk H locs lsA k j hk hj hP hz hS hL)
  | irem =>
    simp only [sstep] at hs
    obtain ⟨hn, hd⟩ := eok_len hok rfl
    subst hn
    obtain ⟨x, y, r, rfl, hs⟩ := s2_some hs
    obtain ⟨⟨h7, h8, h9⟩, hs⟩ := if_some hs
    obtain ⟨rfl, rfl, rfl, rfl⟩ := some4 hs
    refine lv_irem hx hb hd (n_nz h8 h9) ?_
    rw [← n_mod h7 h8]
    exact (kk H locs lsA k j hk hj hP hz hS hL)
  | ineg =>
    simp only [sstep] at hs
    obtain ⟨hn, hd⟩ := eok_len hok rfl
    subst hn
    obtain ⟨x, r, rfl, hs⟩ := s1_some hs
    obtain ⟨rfl, rfl, rfl, rfl⟩ := some4 hs
    refine lv_ineg hx hb hd ?_
    have q9 := kk H locs lsA k j hk hj hP hz hS hL
    simp only [List.map_cons, cv, n_neg] at q9
    exact q9
  | i2l =>
    simp only [sstep] at hs
    obtain ⟨hn, hd⟩ := eok_len hok rfl
    subst hn
    obtain ⟨x, r, rfl, hs⟩ := s1_some hs
    obtain ⟨h7, hs⟩ := if_some hs
    obtain ⟨rfl, rfl, rfl, rfl⟩ := some4 hs
    exact lv_i2l hx hb hd (n_i2l h7) (kk H locs lsA k j hk hj hP hz hS hL)
  | ladd =>
    simp only [sstep] at hs
    obtain ⟨hn, hd⟩ := eok_len hok rfl
    subst hn
    obtain ⟨x, y, r, rfl, hs⟩ := l2_some hs
    obtain ⟨rfl, rfl, rfl, rfl⟩ := some4 hs
    refine lv_ladd hx hb hd ?_
    rw [← n_addL]
    exact (kk H locs lsA k j hk hj hP hz hS hL)
  | lsub =>
    simp only [sstep] at hs
    obtain ⟨hn, hd⟩ := eok_len hok rfl
    subst hn
    obtain ⟨x, y, r, rfl, hs⟩ := l2_some hs
    obtain ⟨rfl, rfl, rfl, rfl⟩ := some4 hs
    refine lv_lsub hx hb hd ?_
    rw [← n_subL]
    exact (kk H locs lsA k j hk hj hP hz hS hL)
  | lmul =>
    simp only [sstep] at hs
    obtain ⟨hn, hd⟩ := eok_len hok rfl
    subst hn
    obtain ⟨x, y, r, rfl, hs⟩ := l2_some hs
    obtain ⟨rfl, rfl, rfl, rfl⟩ := some4 hs
    refine lv_lmul hx hb hd ?_
    rw [← n_mulL]
    exact (kk H locs lsA k j hk hj hP hz hS hL)
  | ldiv =>
    simp only [sstep] at hs
    obtain ⟨hn, hd⟩ := eok_len hok rfl
    subst hn
    obtain ⟨x, y, r, rfl, hs⟩ := l2_some hs
    obtain ⟨⟨h7, h8, h9⟩, hs⟩ := if_some hs
    obtain ⟨rfl, rfl, rfl, rfl⟩ := some4 hs
    refine lv_ldiv hx hb hd (n_nzL h8 h9) ?_
    rw [← n_divL h7 h8]
    exact (kk H locs lsA k j hk hj hP hz hS hL)
  | lrem =>
    simp only [sstep] at hs
    obtain ⟨hn, hd⟩ := eok_len hok rfl
    subst hn
    obtain ⟨x, y, r, rfl, hs⟩ := l2_some hs
    obtain ⟨⟨h7, h8, h9⟩, hs⟩ := if_some hs
    obtain ⟨rfl, rfl, rfl, rfl⟩ := some4 hs
    refine lv_lrem hx hb hd (n_nzL h8 h9) ?_
    rw [← n_modL h7 h8]
    exact (kk H locs lsA k j hk hj hP hz hS hL)
  | lneg =>
    simp only [sstep] at hs
    obtain ⟨hn, hd⟩ := eok_len hok rfl
    subst hn
    obtain ⟨x, r, rfl, hs⟩ := l1_some hs
    obtain ⟨rfl, rfl, rfl, rfl⟩ := some4 hs
    refine lv_lneg hx hb hd ?_
    have q9 := kk H locs lsA k j hk hj hP hz hS hL
    simp only [List.map_cons, cv, n_negL] at q9
    exact q9
  | lcmp =>
    simp only [sstep] at hs
    obtain ⟨hn, hd⟩ := eok_len hok rfl
    subst hn
    obtain ⟨x, y, r, rfl, hs⟩ := l2_some hs
    obtain ⟨⟨h7, h8⟩, hs⟩ := if_some hs
    obtain ⟨rfl, rfl, rfl, rfl⟩ := some4 hs
    refine W.lcmp hx hb hd ?_
    rw [← n_lcm h7 h8]
    exact (kk H locs lsA k j hk hj hP hz hS hL)
  | dup =>
    simp only [sstep] at hs
    obtain ⟨hn, hd⟩ := eok_len hok rfl
    subst hn
    split at hs
    · next v r =>
      obtain ⟨h7, hs⟩ := if_some hs
      obtain ⟨rfl, rfl, rfl, rfl⟩ := some4 hs
      exact lv_dup hx hb hd (by rw [cv_cat]; exact h7) (kk H locs lsA k j hk hj hP hz hS hL)
    · cases hs
  | dup2 =>
    simp only [sstep] at hs
    obtain ⟨hn, hd⟩ := eok_len hok rfl
    subst hn
    split at hs
    · next v w r =>
      obtain ⟨⟨h7, h8⟩, hs⟩ := if_some hs
      obtain ⟨rfl, rfl, rfl, rfl⟩ := some4 hs
      exact lv_dup2_11 hx hb hd (by rw [cv_cat]; exact h7) (by rw [cv_cat]; exact h8) (kk H locs lsA k j hk hj hP hz hS hL)
    · cases hs
  | _ => exact absurd hI (by simp [fam3])

def fam4 : Instr → Bool
  | .goto _ => true
  | .if_icmp _ _ => true
  | .ifCond _ _ => true
  | .ifnull _ => true
  | .ifnonnull _ => true
  | .tableswitch _ _ _ _ => true
  | .lookupswitch _ _ => true
  | _ => false

set_option maxHeartbeats 4000000 in
theorem step_4 (bd : Bd p s m args meth c mi D K B sd xs) {pc pc' np a b : Nat} {cst : Int} {I : Instr} {ls ls' st st' : List MV} {h h1 : MH} (hI : fam4 I = true) (hc : code_ mi pc = some (I, np, a, b, cst)) (hs : sstep xs pc (I, np, a, b, cst) ls st h = some (pc', ls', st', h1)) (hcap : h1.length ≤ h0l + R.cells ∧ slt h1 ≤ h0s + R.slots) (k1 : WG p l e R s m args below meth c Q D K B sd nL h0l h0s pc' ls' st' h1) : WG p l e R s m args below meth c Q D K B sd nL h0l h0s pc ls st h := by
  obtain ⟨hx, hb, hml, hown, hts, hnm, hE, hB⟩ := bd
  have hok := code_ok hc
  have hX := eok_x hok
  intro H locs lsA k j hk hj hP hz hS hL
  have kk := fun (H : Heap) (locs : List Loc) (lsA : Array Slot) (k j : Nat) => k1 H locs lsA k j
  cases I with
  | goto off =>
    simp only [sstep] at hs
    obtain ⟨hn, hd⟩ := eok_len hok rfl
    subst hn
    obtain ⟨rfl, rfl, rfl, rfl⟩ := some4 hs
    have ht : (pc : Int) + off = (a : Int) := by simpa [eokX] using hX
    exact lv_goto hx hb hd ht (kk H locs lsA k j hk hj hP hz hS hL)
  | if_icmp o off =>
    simp only [sstep] at hs
    obtain ⟨hn, hd⟩ := eok_len hok rfl
    subst hn
    obtain ⟨x, y, r, rfl, hs⟩ := s2_some hs
    obtain ⟨⟨h7, h8⟩, hs⟩ := if_some hs
    obtain ⟨rfl, rfl, rfl, rfl⟩ := some4 hs
    have ht : (pc : Int) + off = (a : Int) := by simpa [eokX] using hX
    cases o with
    | eq =>
      refine lv_icmp_eq hx hb hd ht (fun q => ?_) (fun q => ?_)
      · have p9 : x = y := (n_eq h7 h8).mp q
        have c9 : cmpZ .eq x y = true := by simp [cmpZ]; omega
        have q9 := kk H locs lsA k j hk hj hP hz hS hL
        rw [c9] at q9
        exact q9
      · have p9 : ¬ (x = y) := fun z => q ((n_eq h7 h8).mpr z)
        have c9 : cmpZ .eq x y = false := by simp [cmpZ]; omega
        have q9 := kk H locs lsA k j hk hj hP hz hS hL
        rw [c9] at q9
        exact q9
    | ne =>
      refine lv_icmp_ne hx hb hd ht (fun q => ?_) (fun q => ?_)
      · have p9 : ¬ x = y := fun z => q ((n_eq h7 h8).mpr z)
        have c9 : cmpZ .ne x y = true := by simp [cmpZ]; omega
        have q9 := kk H locs lsA k j hk hj hP hz hS hL
        rw [c9] at q9
        exact q9
      · have p9 : x = y := (n_eq h7 h8).mp q
        have c9 : cmpZ .ne x y = false := by simp [cmpZ]; omega
        have q9 := kk H locs lsA k j hk hj hP hz hS hL
        rw [c9] at q9
        exact q9
    | lt =>
      refine lv_icmp_lt hx hb hd ht (fun q => ?_) (fun q => ?_)
      · have p9 : x < y := (n_lt h7 h8).mp q
        have c9 : cmpZ .lt x y = true := by simp [cmpZ]; omega
        have q9 := kk H locs lsA k j hk hj hP hz hS hL
        rw [c9] at q9
        exact q9
      · have p9 : ¬ (x < y) := fun z => q ((n_lt h7 h8).mpr z)
        have c9 : cmpZ .lt x y = false := by simp [cmpZ]; omega
        have q9 := kk H locs lsA k j hk hj hP hz hS hL
        rw [c9] at q9
        exact q9
    | ge =>
      refine lv_icmp_ge hx hb hd ht (fun q => ?_) (fun q => ?_)
      · have p9 : y ≤ x := (n_le h8 h7).mp q
        have c9 : cmpZ .ge x y = true := by simp [cmpZ]; omega
        have q9 := kk H locs lsA k j hk hj hP hz hS hL
        rw [c9] at q9
        exact q9
      · have p9 : ¬ (y ≤ x) := fun z => q ((n_le h8 h7).mpr z)
        have c9 : cmpZ .ge x y = false := by simp [cmpZ]; omega
        have q9 := kk H locs lsA k j hk hj hP hz hS hL
        rw [c9] at q9
        exact q9
    | gt =>
      refine lv_icmp_gt hx hb hd ht (fun q => ?_) (fun q => ?_)
      · have p9 : y < x := (n_lt h8 h7).mp q
        have c9 : cmpZ .gt x y = true := by simp [cmpZ]; omega
        have q9 := kk H locs lsA k j hk hj hP hz hS hL
        rw [c9] at q9
        exact q9
      · have p9 : ¬ (y < x) := fun z => q ((n_lt h8 h7).mpr z)
        have c9 : cmpZ .gt x y = false := by simp [cmpZ]; omega
        have q9 := kk H locs lsA k j hk hj hP hz hS hL
        rw [c9] at q9
        exact q9
    | le =>
      refine lv_icmp_le hx hb hd ht (fun q => ?_) (fun q => ?_)
      · have p9 : x ≤ y := (n_le h7 h8).mp q
        have c9 : cmpZ .le x y = true := by simp [cmpZ]; omega
        have q9 := kk H locs lsA k j hk hj hP hz hS hL
        rw [c9] at q9
        exact q9
      · have p9 : ¬ (x ≤ y) := fun z => q ((n_le h7 h8).mpr z)
        have c9 : cmpZ .le x y = false := by simp [cmpZ]; omega
        have q9 := kk H locs lsA k j hk hj hP hz hS hL
        rw [c9] at q9
        exact q9
  | ifCond o off =>
    simp only [sstep] at hs
    obtain ⟨hn, hd⟩ := eok_len hok rfl
    subst hn
    obtain ⟨x, r, rfl, hs⟩ := s1_some hs
    obtain ⟨h7, hs⟩ := if_some hs
    have h8 : inR (0 : Int) := by constructor <;> decide
    obtain ⟨rfl, rfl, rfl, rfl⟩ := some4 hs
    have ht : (pc : Int) + off = (a : Int) := by simpa [eokX] using hX
    cases o with
    | eq =>
      refine lv_if_eq hx hb hd ht (fun q => ?_) (fun q => ?_)
      · rw [n_0] at q; have p9 : x = 0 := (n_eq h7 h8).mp q
        have c9 : cmpZ .eq x 0 = true := by simp [cmpZ]; omega
        have q9 := kk H locs lsA k j hk hj hP hz hS hL
        rw [c9] at q9
        exact q9
      · rw [n_0] at q; have p9 : ¬ (x = 0) := fun z => q ((n_eq h7 h8).mpr z)
        have c9 : cmpZ .eq x 0 = false := by simp [cmpZ]; omega
        have q9 := kk H locs lsA k j hk hj hP hz hS hL
        rw [c9] at q9
        exact q9
    | ne =>
      refine lv_if_ne hx hb hd ht (fun q => ?_) (fun q => ?_)
      · rw [n_0] at q; have p9 : ¬ x = 0 := fun z => q ((n_eq h7 h8).mpr z)
        have c9 : cmpZ .ne x 0 = true := by simp [cmpZ]; omega
        have q9 := kk H locs lsA k j hk hj hP hz hS hL
        rw [c9] at q9
        exact q9
      · rw [n_0] at q; have p9 : x = 0 := (n_eq h7 h8).mp q
        have c9 : cmpZ .ne x 0 = false := by simp [cmpZ]; omega
        have q9 := kk H locs lsA k j hk hj hP hz hS hL
        rw [c9] at q9
        exact q9
    | lt =>
      refine lv_if_lt hx hb hd ht (fun q => ?_) (fun q => ?_)
      · rw [n_0] at q; have p9 : x < 0 := (n_lt h7 h8).mp q
        have c9 : cmpZ .lt x 0 = true := by simp [cmpZ]; omega
        have q9 := kk H locs lsA k j hk hj hP hz hS hL
        rw [c9] at q9
        exact q9
      · rw [n_0] at q; have p9 : ¬ (x < 0) := fun z => q ((n_lt h7 h8).mpr z)
        have c9 : cmpZ .lt x 0 = false := by simp [cmpZ]; omega
        have q9 := kk H locs lsA k j hk hj hP hz hS hL
        rw [c9] at q9
        exact q9
    | ge =>
      refine lv_if_ge hx hb hd ht (fun q => ?_) (fun q => ?_)
      · rw [n_0] at q; have p9 : 0 ≤ x := (n_le h8 h7).mp q
        have c9 : cmpZ .ge x 0 = true := by simp [cmpZ]; omega
        have q9 := kk H locs lsA k j hk hj hP hz hS hL
        rw [c9] at q9
        exact q9
      · rw [n_0] at q; have p9 : ¬ (0 ≤ x) := fun z => q ((n_le h8 h7).mpr z)
        have c9 : cmpZ .ge x 0 = false := by simp [cmpZ]; omega
        have q9 := kk H locs lsA k j hk hj hP hz hS hL
        rw [c9] at q9
        exact q9
    | gt =>
      refine lv_if_gt hx hb hd ht (fun q => ?_) (fun q => ?_)
      · rw [n_0] at q; have p9 : 0 < x := (n_lt h8 h7).mp q
        have c9 : cmpZ .gt x 0 = true := by simp [cmpZ]; omega
        have q9 := kk H locs lsA k j hk hj hP hz hS hL
        rw [c9] at q9
        exact q9
      · rw [n_0] at q; have p9 : ¬ (0 < x) := fun z => q ((n_lt h8 h7).mpr z)
        have c9 : cmpZ .gt x 0 = false := by simp [cmpZ]; omega
        have q9 := kk H locs lsA k j hk hj hP hz hS hL
        rw [c9] at q9
        exact q9
    | le =>
      refine lv_if_le hx hb hd ht (fun q => ?_) (fun q => ?_)
      · rw [n_0] at q; have p9 : x ≤ 0 := (n_le h7 h8).mp q
        have c9 : cmpZ .le x 0 = true := by simp [cmpZ]; omega
        have q9 := kk H locs lsA k j hk hj hP hz hS hL
        rw [c9] at q9
        exact q9
      · rw [n_0] at q; have p9 : ¬ (x ≤ 0) := fun z => q ((n_le h7 h8).mpr z)
        have c9 : cmpZ .le x 0 = false := by simp [cmpZ]; omega
        have q9 := kk H locs lsA k j hk hj hP hz hS hL
        rw [c9] at q9
        exact q9
  | ifnull off =>
    simp only [sstep] at hs
    obtain ⟨hn, hd⟩ := eok_len hok rfl
    subst hn
    split at hs
    · next q r =>
      obtain ⟨rfl, rfl, rfl, rfl⟩ := some4 hs
      exact lv_ifnull hx hb hd (kk H locs lsA k j hk hj hP hz hS hL)
    · cases hs
  | ifnonnull off =>
    simp only [sstep] at hs
    obtain ⟨hn, hd⟩ := eok_len hok rfl
    subst hn
    have ht : (pc : Int) + off = (a : Int) := by simpa [eokX] using hX
    split at hs
    · next q r =>
      obtain ⟨rfl, rfl, rfl, rfl⟩ := some4 hs
      exact lv_ifnonnull hx hb hd ht (kk H locs lsA k j hk hj hP hz hS hL)
    · cases hs
  | tableswitch d lo hi offs =>
    simp only [sstep] at hs
    have hd := eok_dec hok
    obtain ⟨x, r, rfl, hs⟩ := s1_some hs
    obtain ⟨h7, hs⟩ := if_some hs
    unfold jump swT at hs
    by_cases hq : x < lo ∨ hi < x
    · rw [if_pos hq] at hs
      obtain ⟨h8, hs⟩ := if_some hs
      obtain ⟨rfl, rfl, rfl, rfl⟩ := some4 hs
      exact lv_tableOut hx hb hd (by rw [n_toOf h7]; exact hq) (by omega) (kk H locs lsA k j hk hj hP hz hS hL)
    · rw [if_neg hq] at hs
      cases ho : offs.toList[(x - lo).toNat]? with
      | none => rw [ho] at hs; cases hs
      | some o9 =>
        rw [ho] at hs
        obtain ⟨h8, hs⟩ := if_some hs
        obtain ⟨rfl, rfl, rfl, rfl⟩ := some4 hs
        exact lv_tableIn hx hb hd (by rw [n_toOf h7]; omega) (by rw [n_toOf h7]; omega) (off := o9) (by rw [n_toOf h7, ← Array.getElem?_toList]; exact ho) (by omega) (kk H locs lsA k j hk hj hP hz hS hL)
  | lookupswitch d ps =>
    simp only [sstep] at hs
    have hd := eok_dec hok
    obtain ⟨x, r, rfl, hs⟩ := s1_some hs
    obtain ⟨⟨h7, h9⟩, hs⟩ := if_some hs
    unfold jump at hs
    obtain ⟨h8, hs⟩ := if_some hs
    obtain ⟨rfl, rfl, rfl, rfl⟩ := some4 hs
    exact lv_lookup hx hb hd h9 (by rw [n_toOf h7]) (by omega) (kk H locs lsA k j hk hj hP hz hS hL)
  | _ => exact absurd hI (by simp [fam4])

def fam5 : Instr → Bool
  | .getfield _ => true
  | .putfield _ => true
  | .getstatic _ => true
  | .iaload => true
  | .laload => true
  | .baload => true
  | .iastore => true
  | .lastore => true
  | .bastore => true
  | .arraylength => true
  | .new _ => true
  | .newarray _ => true
  | _ => false

set_option maxHeartbeats 4000000 in
theorem step_5 (bd : Bd p s m args meth c mi D K B sd xs) {pc pc' np a b : Nat} {cst : Int} {I : Instr} {ls ls' st st' : List MV} {h h1 : MH} (hI : fam5 I = true) (hc : code_ mi pc = some (I, np, a, b, cst)) (hs : sstep xs pc (I, np, a, b, cst) ls st h = some (pc', ls', st', h1)) (hcap : h1.length ≤ h0l + R.cells ∧ slt h1 ≤ h0s + R.slots) (k1 : WG p l e R s m args below meth c Q D K B sd nL h0l h0s pc' ls' st' h1) : WG p l e R s m args below meth c Q D K B sd nL h0l h0s pc ls st h := by
  obtain ⟨hx, hb, hml, hown, hts, hnm, hE, hB⟩ := bd
  have hok := code_ok hc
  have hX := eok_x hok
  intro H locs lsA k j hk hj hP hz hS hL
  have kk := fun (H : Heap) (locs : List Loc) (lsA : Array Slot) (k j : Nat) => k1 H locs lsA k j
  cases I with
  | getfield ix =>
    simp only [sstep] at hs
    obtain ⟨hn, hd⟩ := eok_len hok rfl
    subst hn
    have hF : (clsM mi, ix, a, b) ∈ FT := by simpa [eokX] using hX
    obtain ⟨hF1, hF2⟩ := FT_lt _ hF
    dsimp only at hF1 hF2
    split at hs
    · next q r =>
      split at hs
      · next ci fs hq =>
        by_cases hci : ci = a
        · rw [if_pos hci] at hs
          subst hci
          split at hs
          · next v hv =>
            obtain ⟨rfl, rfl, rfl, rfl⟩ := some4 hs
            obtain ⟨⟨C, T, N⟩, hCL⟩ : ∃ z, CL[ci]? = some z := ⟨_, List.getElem?_eq_getElem (by exact hF2)⟩
            obtain ⟨t1, t2, t3, t4⟩ := CL_get hCL
            rw [t4] at hF1
            exact va_get hx hb hts (CL_in hCL) hown hE.1 hP q (fs := fs.map (cv B sd)) (wd_at hq) hCL b hF1 (hts _ (FT_in hCL hF)) (fun _ z => z) (by rw [List.getElem?_map, hv]; rfl) hd (kk H locs lsA k j hk hj hP hz hS hL)
          · cases hs
        · rw [if_neg hci] at hs; cases hs
      · cases hs
    · cases hs
  | putfield ix =>
    simp only [sstep] at hs
    obtain ⟨hn, hd⟩ := eok_len hok rfl
    subst hn
    have hX2 : (clsM mi, ix, a, b) ∈ FT ∧ ptOK mi a b cst = true := by simpa [eokX] using hX
    obtain ⟨hF, hT⟩ := hX2
    obtain ⟨hF1, hF2⟩ := FT_lt _ hF
    dsimp only at hF1 hF2
    split at hs
    · next v q r =>
      split at hs
      · next ci fs hq =>
        replace hs := if_some hs
        obtain ⟨⟨hci, hbl, hfk⟩, hs⟩ := hs
        subst hci
        obtain ⟨rfl, rfl, rfl, rfl⟩ := some4 hs
        obtain ⟨⟨C, T, N⟩, hCL⟩ : ∃ z, CL[ci]? = some z := ⟨_, List.getElem?_eq_getElem (by exact hF2)⟩
        obtain ⟨t1, t2, t3, t4⟩ := CL_get hCL
        rw [t4] at hF1
        simp only [ptOK, hCL, Bool.and_eq_true, Bool.or_eq_true, beq_iff_eq] at hT
        obtain ⟨hT1, hT2⟩ := hT
        have hnf : narrow (tyC ci b) (cv B sd v) = cv B sd v ∧ fits (tyC ci b) (cv B sd v) = true := by
          generalize tyC ci b = ty at hT1
          cases ty <;> simp at hT1 <;> subst hT1 <;> rcases v with z | z | z | z | z <;> simp [fkind] at hfk <;> first | exact ⟨rfl, rfl⟩ | (rcases hfk with rfl | rfl <;> first | exact ⟨nb0, fb0⟩ | exact ⟨nb1, fb1⟩)
        refine so_put hx hb hts (CL_in hCL) (tyC ci) t1 t2 hown hE.1 hP hS hCL hq hF1 hbl (hts _ (FT_in hCL hF)) ?_ hnf.1 hnf.2 hd (fun H1 locs1 p1 z1 s1 => ?_)
        · rcases hT2 with z | ⟨z1, z2⟩
          · exact Or.inl z
          · exact Or.inr ⟨hnm z1, z2⟩
        · exact kk H1 locs1 lsA k j (by rw [List.length_set]; exact hk) (by rw [slt_set (c := .inl (ci, fs.set b v)) hq rfl]; exact hj) p1 (by rw [z1, hz, List.length_set]) s1 hL
      · cases hs
    · cases hs
  | getstatic ix =>
    simp only [sstep] at hs
    obtain ⟨hn, hd⟩ := eok_len hok rfl
    subst hn
    obtain ⟨rfl, rfl, rfl, rfl⟩ := some4 hs
    have hF : (clsM mi, ix, a) ∈ ST := by simpa [eokX] using hX
    have hlt := ST_lt _ hF
    dsimp only at hlt
    obtain ⟨n9, hn9⟩ : ∃ n, SNm[a]? = some n := ⟨_, List.getElem?_eq_getElem (by exact hlt)⟩
    have hw := hts _ (ST_in hF)
    rw [hn9] at hw
    exact va_gets hx hb (hE.2.1 a n9 hn9) hS hown hw (fun _ z => z) hd (kk H locs lsA k j hk hj hP hz hS hL)
  | iaload =>
    simp only [sstep] at hs
    obtain ⟨hn, hd⟩ := eok_len hok rfl
    subst hn
    unfold aGet at hs
    split at hs
    · next i9 q r =>
      split at hs
      · next kd9 li hq =>
        replace hs := if_some hs
        obtain ⟨⟨rfl, h7, h8, h9⟩, hs⟩ := hs
        obtain ⟨rfl, rfl, rfl, rfl⟩ := some4 hs
        have q9 := kk H locs lsA k j hk hj hP hz hS hL
        refine va_iald hx hb hE.1 hP q 0 (wd_at hq) rfl (n_in h7 h9 h8) hd ?_
        rw [n_cl h7 h9]
        exact q9
      · cases hs
    · next i9 q r =>
      replace hs := if_some hs
      obtain ⟨⟨h5, h6, h7, h8, h9⟩, hs⟩ := hs
      obtain ⟨rfl, rfl, rfl, rfl⟩ := some4 hs
      exact va_ti hx hb (hE.2.2.1 q h6) hS (n_in h7 h9 h8) (by rw [n_cl h7 h9]; rfl) hd (kk H locs lsA k j hk hj hP hz hS hL)
    · cases hs
  | laload =>
    simp only [sstep] at hs
    obtain ⟨hn, hd⟩ := eok_len hok rfl
    subst hn
    unfold aGet at hs
    split at hs
    · next i9 q r =>
      split at hs
      · next kd9 li hq =>
        replace hs := if_some hs
        obtain ⟨⟨rfl, h7, h8, h9⟩, hs⟩ := hs
        obtain ⟨rfl, rfl, rfl, rfl⟩ := some4 hs
        have q9 := kk H locs lsA k j hk hj hP hz hS hL
        refine va_lald hx hb hE.1 hP q 1 (wd_at hq) rfl (n_in h7 h9 h8) hd ?_
        rw [n_cl h7 h9]
        exact q9
      · cases hs
    · next i9 q r =>
      replace hs := if_some hs
      obtain ⟨⟨h5, h6, h7, h8, h9⟩, hs⟩ := hs
      cases h5
    · cases hs
  | baload =>
    simp only [sstep] at hs
    obtain ⟨hn, hd⟩ := eok_len hok rfl
    subst hn
    unfold aGet at hs
    split at hs
    · next i9 q r =>
      split at hs
      · next kd9 li hq =>
        replace hs := if_some hs
        obtain ⟨⟨rfl, h7, h8, h9⟩, hs⟩ := hs
        obtain ⟨rfl, rfl, rfl, rfl⟩ := some4 hs
        have q9 := kk H locs lsA k j hk hj hP hz hS hL
        refine va_zald hx hb hE.1 hP q 2 (wd_at hq) rfl (n_in h7 h9 h8) hd ?_
        rw [n_cl h7 h9]
        exact q9
      · cases hs
    · next i9 q r =>
      replace hs := if_some hs
      obtain ⟨⟨h5, h6, h7, h8, h9⟩, hs⟩ := hs
      cases h5
    · cases hs
  | iastore =>
    simp only [sstep] at hs
    obtain ⟨hn, hd⟩ := eok_len hok rfl
    subst hn
    split at hs
    · next x i9 q r =>
      unfold aPut at hs
      split at hs
      · next kd9 li hq =>
        replace hs := if_some hs
        obtain ⟨⟨rfl, h7, h8, h9⟩, hs⟩ := hs
        obtain ⟨rfl, rfl, rfl, rfl⟩ := some4 hs
        exact so_iast hx hb hE.1 0 rfl hP hS hq h7 h8 h9 hd (fun H1 locs1 p1 z1 s1 => kk H1 locs1 lsA k j (by rw [List.length_set]; exact hk) (by rw [slt_set hq (by simp [csz])]; exact hj) p1 (by rw [z1, hz, List.length_set]) s1 hL)
      · cases hs
    · cases hs
  | lastore =>
    simp only [sstep] at hs
    obtain ⟨hn, hd⟩ := eok_len hok rfl
    subst hn
    split at hs
    · next x i9 q r =>
      unfold aPut at hs
      split at hs
      · next kd9 li hq =>
        replace hs := if_some hs
        obtain ⟨⟨rfl, h7, h8, h9⟩, hs⟩ := hs
        obtain ⟨rfl, rfl, rfl, rfl⟩ := some4 hs
        exact so_last hx hb hE.1 1 rfl hP hS hq h7 h8 h9 hd (fun H1 locs1 p1 z1 s1 => kk H1 locs1 lsA k j (by rw [List.length_set]; exact hk) (by rw [slt_set hq (by simp [csz])]; exact hj) p1 (by rw [z1, hz, List.length_set]) s1 hL)
      · cases hs
    · cases hs
  | bastore =>
    simp only [sstep] at hs
    obtain ⟨hn, hd⟩ := eok_len hok rfl
    subst hn
    split at hs
    · next x i9 q r =>
      replace hs := if_some hs
      obtain ⟨h10, hs⟩ := hs
      unfold aPut at hs
      split at hs
      · next kd9 li hq =>
        replace hs := if_some hs
        obtain ⟨⟨rfl, h7, h8, h9⟩, hs⟩ := hs
        obtain ⟨rfl, rfl, rfl, rfl⟩ := some4 hs
        exact so_zast hx hb hE.1 2 rfl hP hS hq h7 h8 h9 h10 hd (fun H1 locs1 p1 z1 s1 => kk H1 locs1 lsA k j (by rw [List.length_set]; exact hk) (by rw [slt_set hq (by simp [csz])]; exact hj) p1 (by rw [z1, hz, List.length_set]) s1 hL)
      · cases hs
    · cases hs
  | arraylength =>
    simp only [sstep] at hs
    obtain ⟨hn, hd⟩ := eok_len hok rfl
    subst hn
    split at hs
    · next q r =>
      split at hs
      · next kd9 li hq =>
        obtain ⟨rfl, rfl, rfl, rfl⟩ := some4 hs
        have q9 := kk H locs lsA k j hk hj hP hz hS hL
        have ha := wd_at (K := K) (B := B) (sd := sd) hq
        unfold ce at ha
        dsimp only at ha
        by_cases hk0 : kd9 = 0
        · rw [if_pos hk0] at ha
          exact va_alen hx hb hE.1 hP q 0 ha rfl (n_nat li.length).symm hd q9
        · rw [if_neg hk0] at ha
          by_cases hk1 : kd9 = 1
          · rw [if_pos hk1] at ha
            exact va_alen hx hb hE.1 hP q 1 ha rfl (n_nat li.length).symm hd q9
          · rw [if_neg hk1] at ha
            exact va_alen hx hb hE.1 hP q 2 ha rfl (n_nat li.length).symm hd q9
      · cases hs
    · next q r =>
      replace hs := if_some hs
      obtain ⟨h7, hs⟩ := hs
      obtain ⟨rfl, rfl, rfl, rfl⟩ := some4 hs
      exact va_tlen hx hb (hE.2.2.1 q h7) hS (n_nat _).symm hd (kk H locs lsA k j hk hj hP hz hS hL)
    · cases hs
  | new ix =>
    simp only [sstep] at hs
    obtain ⟨hn, hd⟩ := eok_len hok rfl
    subst hn
    obtain ⟨rfl, rfl, rfl, rfl⟩ := some4 hs
    have hF : (clsM mi, ix, a) ∈ NT := by simpa [eokX] using hX
    have hlt := NT_lt _ hF
    dsimp only at hlt
    obtain ⟨⟨C, T, N⟩, hCL⟩ : ∃ z, CL[a]? = some z := ⟨_, List.getElem?_eq_getElem (by exact hlt)⟩
    obtain ⟨t1, t2, t3, t4⟩ := CL_get hCL
    obtain ⟨u1, u2⟩ := NT_in hF
    rw [t3] at u1 u2
    rw [t4] at u2
    have hin := CN_in (o := a) (by omega)
    rw [t3] at hin
    have hsl : slt (h ++ [(.inl (a, dfC a) : HC)]) = slt h + N := by rw [slt_push]; simp [csz, t4]
    have hlen : (h ++ [(.inl (a, dfC a) : HC)]).length = h.length + 1 := by simp
    rw [hsl, hlen] at hcap
    exact so_new hx hb hts (CL_in hCL) (tyC a) t1 hown (hts _ u1) (hts _ u2) (hts _ hin) hE.1 hP hz hS hCL (fun i hi => dfC_ok B sd a hlt i (by rw [t4]; exact hi)) (by omega) (by omega) hd (fun H1 p1 z1 s1 => kk H1 locs lsA (k + 1) (j + N) (by rw [hlen]; omega) (by rw [hsl]; omega) p1 (by rw [z1, hz, hlen]; omega) s1 hL)
  | newarray t =>
    simp only [sstep] at hs
    obtain ⟨hn, hd⟩ := eok_len hok rfl
    subst hn
    obtain ⟨n, r, rfl, hs⟩ := s1_some hs
    replace hs := if_some hs
    obtain ⟨⟨h7, h8⟩, hs⟩ := hs
    cases t with
    | int =>
      obtain ⟨rfl, rfl, rfl, rfl⟩ := some4 hs
      have hsl : slt (h ++ [(.inr (0, List.replicate n.toNat 0) : HC)]) = slt h + n.toNat := by rw [slt_push]; simp [csz]
      have hlen : (h ++ [(.inr (0, List.replicate n.toNat 0) : HC)]).length = h.length + 1 := by simp
      rw [hsl, hlen] at hcap
      have hz0 : ∀ q : Nat, (List.replicate n.toNat (0 : Int)).getD q 0 = 0 := by
        intro q
        rw [List.getD_eq_getElem?_getD, List.getElem?_replicate]
        split <;> rfl
      refine so_newa hx hb (t := .int) (ty := .int) (hts _ (AR_in (t := .int) (Or.inl rfl))) rfl (hE.1.2 0 _ rfl).2 hP hz hS rfl ?_ h7 h8 (by decide) (by omega) (by omega) hd (fun H1 p1 z1 s1 => kk H1 locs lsA (k + 1) (j + n.toNat) (by rw [hlen]; omega) (by rw [hsl]; omega) p1 (by rw [z1, hz, hlen]; omega) s1 hL)
      rw [vp_cell_i, List.length_replicate]
      congr 1
      funext q
      simp only [fI, hz0]
      rfl
    | long =>
      obtain ⟨rfl, rfl, rfl, rfl⟩ := some4 hs
      have hsl : slt (h ++ [(.inr (1, List.replicate n.toNat 0) : HC)]) = slt h + n.toNat := by rw [slt_push]; simp [csz]
      have hlen : (h ++ [(.inr (1, List.replicate n.toNat 0) : HC)]).length = h.length + 1 := by simp
      rw [hsl, hlen] at hcap
      have hz0 : ∀ q : Nat, (List.replicate n.toNat (0 : Int)).getD q 0 = 0 := by
        intro q
        rw [List.getD_eq_getElem?_getD, List.getElem?_replicate]
        split <;> rfl
      refine so_newa hx hb (t := .long) (ty := .long) (hts _ (AR_in (t := .long) (Or.inr (Or.inl rfl)))) rfl (hE.1.2 1 _ rfl).2 hP hz hS rfl ?_ h7 h8 (by decide) (by omega) (by omega) hd (fun H1 p1 z1 s1 => kk H1 locs lsA (k + 1) (j + n.toNat) (by rw [hlen]; omega) (by rw [hsl]; omega) p1 (by rw [z1, hz, hlen]; omega) s1 hL)
      rw [vp_cell_l, List.length_replicate]
      congr 1
      funext q
      simp only [fL, hz0]
      rfl
    | boolean =>
      obtain ⟨rfl, rfl, rfl, rfl⟩ := some4 hs
      have hsl : slt (h ++ [(.inr (2, List.replicate n.toNat 0) : HC)]) = slt h + n.toNat := by rw [slt_push]; simp [csz]
      have hlen : (h ++ [(.inr (2, List.replicate n.toNat 0) : HC)]).length = h.length + 1 := by simp
      rw [hsl, hlen] at hcap
      have hz0 : ∀ q : Nat, (List.replicate n.toNat (0 : Int)).getD q 0 = 0 := by
        intro q
        rw [List.getD_eq_getElem?_getD, List.getElem?_replicate]
        split <;> rfl
      refine so_newa hx hb (t := .boolean) (ty := .boolean) (hts _ (AR_in (t := .boolean) (Or.inr (Or.inr rfl)))) rfl (hE.1.2 2 _ rfl).2 hP hz hS rfl ?_ h7 h8 (by decide) (by omega) (by omega) hd (fun H1 p1 z1 s1 => kk H1 locs lsA (k + 1) (j + n.toNat) (by rw [hlen]; omega) (by rw [hsl]; omega) p1 (by rw [z1, hz, hlen]; omega) s1 hL)
      rw [vp_cell_i, List.length_replicate]
      congr 1
      funext q
      simp only [fI, hz0]
      rfl
    | _ => cases hs
  | _ => exact absurd hI (by simp [fam5])

theorem step_all (bd : Bd p s m args meth c mi D K B sd xs) {pc pc' : Nat} {e0 : EN} {ls ls' st st' : List MV} {h h1 : MH} (hc : code_ mi pc = some e0) (hs : sstep xs pc e0 ls st h = some (pc', ls', st', h1)) (hcap : h1.length ≤ h0l + R.cells ∧ slt h1 ≤ h0s + R.slots) (k1 : WG p l e R s m args below meth c Q D K B sd nL h0l h0s pc' ls' st' h1) : WG p l e R s m args below meth c Q D K B sd nL h0l h0s pc ls st h := by
  obtain ⟨I, np, a, b, cst⟩ := e0
  by_cases h1 : fam1 I = true
  · exact step_1 bd h1 hc hs hcap k1
  by_cases h2 : fam2 I = true
  · exact step_2 bd h2 hc hs hcap k1
  by_cases h3 : fam3 I = true
  · exact step_3 bd h3 hc hs hcap k1
  by_cases h4 : fam4 I = true
  · exact step_4 bd h4 hc hs hcap k1
  by_cases h5 : fam5 I = true
  · exact step_5 bd h5 hc hs hcap k1
  exfalso
  cases I <;> first | exact h1 rfl | exact h2 rfl | exact h3 rfl | exact h4 rfl | exact h5 rfl | (simp [sstep] at hs; done)
end SND
end
section
-- a run of the small machine is a run of the machine
theorem ge_set {h : MH} {i : Nat} {c0 c : HC} (hq : h[i]? = some c0) (hs : csz c = csz c0) : h.length ≤ (h.set i c).length ∧ slt h ≤ slt (h.set i c) := ⟨by rw [List.length_set]; exact Nat.le_refl _, by rw [slt_set hq hs]; exact Nat.le_refl _⟩
theorem ge_push {h : MH} {c : HC} : h.length ≤ (h ++ [c]).length ∧ slt h ≤ slt (h ++ [c]) := ⟨by rw [List.length_append]; exact Nat.le_add_right _ _, by rw [slt_push]; exact Nat.le_add_right _ _⟩
theorem ge_rf {h : MH} : h.length ≤ h.length ∧ slt h ≤ slt h := ⟨Nat.le_refl _, Nat.le_refl _⟩
theorem ge_aPut {kd q : Nat} {h h1 : MH} {j x : Int} {np pc' : Nat} {ls r ls' st' : List MV} (hs : aPut kd h q j x np ls r = some (pc', ls', st', h1)) : h.length ≤ h1.length ∧ slt h ≤ slt h1 := by
  unfold aPut at hs
  split at hs
  · next k9 li hq =>
    replace hs := if_some hs
    obtain ⟨-, hs⟩ := hs
    obtain ⟨-, -, -, rfl⟩ := some4 hs
    exact ge_set hq (by simp [csz])
  · cases hs
theorem ge_aGet {xs : List Int} {kd : Nat} {h h1 : MH} {st : List MV} {f : Int → List MV → SR} {pc' : Nat} {ls' st' : List MV} (hf : ∀ z r pc' ls' st' h1, f z r = some (pc', ls', st', h1) → h1 = h) (hs : aGet xs kd h st f = some (pc', ls', st', h1)) : h1 = h := by
  unfold aGet at hs
  split at hs
  · split at hs
    · obtain ⟨-, hs⟩ := if_some hs
      exact hf _ _ _ _ _ _ hs
    · cases hs
  · obtain ⟨-, hs⟩ := if_some hs
    exact hf _ _ _ _ _ _ hs
  · cases hs
theorem ge_jump {pc : Nat} {off : Option Int} {ls r ls' st' : List MV} {h h1 : MH} {pc' : Nat} (hs : jump pc off ls r h = some (pc', ls', st', h1)) : h1 = h := by
  unfold jump at hs
  split at hs
  · obtain ⟨-, hs⟩ := if_some hs
    exact (some4 hs).2.2.2.symm
  · cases hs
def noHeap : Instr → Bool
  | .putfield _ => false
  | .iastore => false
  | .lastore => false
  | .bastore => false
  | .newarray _ => false
  | .new _ => false
  | _ => true
set_option maxHeartbeats 4000000 in
theorem sstep_eq {xs : List Int} {pc pc' np a b : Nat} {I : Instr} {c : Int} {ls st ls' st' : List MV} {h h1 : MH} (hn : noHeap I = true) (hs : sstep xs pc (I, np, a, b, c) ls st h = some (pc', ls', st', h1)) : h1 = h := by
  cases I <;> first
    | (simp [noHeap] at hn; done)
    | (simp [sstep] at hs; done)
    | (simp only [sstep] at hs; exact (some4 hs).2.2.2.symm)
    | (simp only [sstep, ldI, ldL, ldA, stI, stL, stA] at hs; split at hs <;> first | exact (some4 hs).2.2.2.symm | exact (some4 (if_some hs).2).2.2.2.symm | cases hs)
    | (simp only [sstep] at hs; obtain ⟨x, r, -, hs⟩ := s1_some hs; first | exact (some4 hs).2.2.2.symm | exact (some4 (if_some hs).2).2.2.2.symm | exact ge_jump (if_some hs).2)
    | (simp only [sstep] at hs; obtain ⟨x, y, r, -, hs⟩ := s2_some hs; first | exact (some4 hs).2.2.2.symm | exact (some4 (if_some hs).2).2.2.2.symm)
    | (simp only [sstep] at hs; obtain ⟨x, r, -, hs⟩ := l1_some hs; first | exact (some4 hs).2.2.2.symm | exact (some4 (if_some hs).2).2.2.2.symm)
    | (simp only [sstep] at hs; obtain ⟨x, y, r, -, hs⟩ := l2_some hs; first | exact (some4 hs).2.2.2.symm | exact (some4 (if_some hs).2).2.2.2.symm)
    | (simp only [sstep] at hs; exact ge_aGet (fun z r pc' ls' st' h1 hz => (some4 hz).2.2.2.symm) hs)
    | (simp only [sstep] at hs; split at hs <;> first | exact (some4 hs).2.2.2.symm | exact (some4 (if_some hs).2).2.2.2.symm | (cases hs; done) | (split at hs <;> first | exact (some4 hs).2.2.2.symm | (cases hs; done) | (obtain ⟨-, hs⟩ := if_some hs; split at hs <;> first | exact (some4 hs).2.2.2.symm | (cases hs; done))))
theorem sstep_ge {xs : List Int} {pc pc' : Nat} {e0 : EN} {ls st ls' st' : List MV} {h h1 : MH} (hs : sstep xs pc e0 ls st h = some (pc', ls', st', h1)) : h.length ≤ h1.length ∧ slt h ≤ slt h1 := by
  obtain ⟨I, np, a, b, c⟩ := e0
  by_cases hn : noHeap I = true
  · rw [sstep_eq hn hs]; exact ge_rf
  · cases I with
    | putfield ix =>
      simp only [sstep] at hs
      split at hs
      · split at hs
        · next ci fs hq =>
          obtain ⟨-, hs⟩ := if_some hs
          obtain ⟨-, -, -, rfl⟩ := some4 hs
          exact ge_set hq rfl
        · cases hs
      · cases hs
    | iastore =>
      simp only [sstep] at hs
      split at hs
      · exact ge_aPut hs
      · cases hs
    | lastore =>
      simp only [sstep] at hs
      split at hs
      · exact ge_aPut hs
      · cases hs
    | bastore =>
      simp only [sstep] at hs
      split at hs
      · exact ge_aPut (if_some hs).2
      · cases hs
    | newarray t =>
      simp only [sstep] at hs
      obtain ⟨x, r, -, hs⟩ := s1_some hs
      obtain ⟨-, hs⟩ := if_some hs
      cases t with
      | int => obtain ⟨-, -, -, rfl⟩ := some4 hs; exact ge_push
      | long => obtain ⟨-, -, -, rfl⟩ := some4 hs; exact ge_push
      | boolean => obtain ⟨-, -, -, rfl⟩ := some4 hs; exact ge_push
      | _ => cases hs
    | new ix =>
      simp only [sstep] at hs
      obtain ⟨-, -, -, rfl⟩ := some4 hs
      exact ge_push
    | _ => exact absurd rfl hn
/-- what a call of the small machine tells -/
theorem mcall_some {F : Nat} {call : Nat → Nat → List MV → MH → Option (Option MV × MH)} {Lr np a b : Nat} {I : Instr} {c : Int} {st st' : List MV} {h h2 : MH} (hs : mcall F call Lr (I, np, a, b, c) st h = some (st', h2)) :
    (b = 5 ∧ h2 = h ∧ 1 ≤ F ∧ 20 ≤ Lr ∧ csum st' ≤ 8 ∧ ∃ q, st = vR q :: st') ∨
    (b ≠ 5 ∧ ∃ (as rest : List MV) (r : Option MV), st = as.reverse ++ rest ∧ as.length = naC b a ∧ csum rest ≤ 8 ∧ 19 + mxM a ≤ Lr ∧ recvOK b a as h = true ∧ call (Lr - (19 + mxM a)) a as h = some (r, h2) ∧ st' = pushR r rest) := by
  simp only [mcall] at hs
  by_cases hb : b = 5
  · rw [if_pos hb] at hs
    split at hs
    · next q r' =>
      by_cases hq : 1 ≤ F ∧ 20 ≤ Lr ∧ csum r' ≤ 8
      · rw [if_pos hq] at hs
        simp only [Option.some.injEq, Prod.mk.injEq] at hs
        obtain ⟨rfl, rfl⟩ := hs
        exact Or.inl ⟨hb, rfl, hq.1, hq.2.1, hq.2.2, _, rfl⟩
      · rw [if_neg hq] at hs; cases hs
    · cases hs
  · rw [if_neg hb] at hs
    by_cases hq : naC b a ≤ st.length ∧ csum (st.drop (naC b a)) ≤ 8 ∧ 19 + mxM a ≤ Lr ∧ recvOK b a (st.take (naC b a)).reverse h = true
    · rw [if_pos hq] at hs
      cases hc : call (Lr - (19 + mxM a)) a (st.take (naC b a)).reverse h with
      | none => rw [hc] at hs; cases hs
      | some z =>
        obtain ⟨r, h3⟩ := z
        rw [hc] at hs
        simp only [Option.some.injEq, Prod.mk.injEq] at hs
        obtain ⟨rfl, rfl⟩ := hs
        refine Or.inr ⟨hb, _, st.drop (naC b a), r, ?_, ?_, hq.2.1, hq.2.2.1, hq.2.2.2, hc, rfl⟩
        · rw [List.reverse_reverse, List.take_append_drop]
        · rw [List.length_reverse, List.length_take]; omega
    · rw [if_neg hq] at hs; cases hs
theorem goN_ge {xs : List Int} {F : Nat} {call : Nat → Nat → List MV → MH → Option (Option MV × MH)} (hcall : ∀ L a as h r h', call L a as h = some (r, h') → h.length ≤ h'.length ∧ slt h ≤ slt h') :
    ∀ (n Lr m pc : Nat) (ls st : List MV) (h : MH) (r : Option MV) (h' : MH), goN xs F call n Lr m pc ls st h = some (r, h') → h.length ≤ h'.length ∧ slt h ≤ slt h' := by
  intro n
  induction n with
  | zero => intro Lr m pc ls st h r h' hr; simp [goN] at hr
  | succ n ih =>
    intro Lr m pc ls st h r h' hr
    unfold goN at hr
    cases hco : code_ m pc with
    | none => rw [hco] at hr; cases hr
    | some e0 =>
      rw [hco] at hr
      dsimp only at hr
      by_cases h1 : kindI e0.1 = 1
      · rw [if_pos h1] at hr
        cases hm : mret m e0.1 st with
        | none => rw [hm] at hr; cases hr
        | some z =>
          rw [hm] at hr
          simp only [Option.some.injEq, Prod.mk.injEq] at hr
          rw [hr.2]
          exact ge_rf
      · rw [if_neg h1] at hr
        by_cases h2 : kindI e0.1 = 2
        · rw [if_pos h2] at hr
          cases hm : mcall F call Lr e0 st h with
          | none => rw [hm] at hr; cases hr
          | some z =>
            obtain ⟨st', h2'⟩ := z
            rw [hm] at hr
            have g1 := ih _ _ _ _ _ _ _ _ hr
            obtain ⟨I, np, a, b, c⟩ := e0
            rcases mcall_some hm with ⟨-, rfl, -⟩ | ⟨-, as, rest, r9, -, -, -, -, -, hc, -⟩
            · exact g1
            · have g2 := hcall _ _ _ _ _ _ hc
              exact ⟨Nat.le_trans g2.1 g1.1, Nat.le_trans g2.2 g1.2⟩
        · rw [if_neg h2] at hr
          cases hs : sstep xs pc e0 ls st h with
          | none => rw [hs] at hr; cases hr
          | some z =>
            obtain ⟨pc', ls', st', h1'⟩ := z
            rw [hs] at hr
            have g1 := ih _ _ _ _ _ _ _ _ hr
            have g2 := sstep_ge hs
            exact ⟨Nat.le_trans g2.1 g1.1, Nat.le_trans g2.2 g1.2⟩
theorem exec_ge {xs : List Int} : ∀ (F n Lr m : Nat) (as : List MV) (h : MH) (r : Option MV) (h' : MH), exec xs F n Lr m as h = some (r, h') → h.length ≤ h'.length ∧ slt h ≤ slt h' := by
  intro F
  induction F with
  | zero => intro n Lr m as h r h' hr; simp [exec] at hr
  | succ F ih =>
    intro n Lr m as h r h' hr
    unfold exec at hr
    by_cases hq : (lay as).length ≤ mxM m
    · rw [if_pos hq] at hr
      exact goN_ge (fun L a as h r h' hz => ih n L a as h r h' hz) _ _ _ _ _ _ _ _ _ hr
    · rw [if_neg hq] at hr; cases hr
def wsM (m : Nat) : List Jvm.Cond := .code (yM m) (byM m) (mxM m) (retM m) :: ALL
def NMc : Nat := MIc.length
theorem MI_ok1 : ∀ k, k < NMc → (yM k).cls ≠ "java/lang/invoke/MethodHandle" ∧ (yM k).cls ≠ "java/lang/invoke/VarHandle" := by decide +kernel
theorem MI_ok2 : ∀ k, k < NMc → (parseMethodDescriptor (yM k).desc).map (fun d => d.parameters.length) = some (npM k) := by decide +kernel
theorem MI_ok3 : ∀ k, k < NMc → plainFor (yM k) = true := by decide +kernel
theorem MI_ok4 : ∀ k, k < NMc → (yM k).cls = cnm (clsM k) ∧ clsM k < 15 := by decide +kernel
theorem MI_ok : ∀ k, k < NMc → ((yM k).cls ≠ "java/lang/invoke/MethodHandle" ∧ (yM k).cls ≠ "java/lang/invoke/VarHandle" ∧ (parseMethodDescriptor (yM k).desc).map (fun d => d.parameters.length) = some (npM k)) ∧ plainFor (yM k) = true ∧ (yM k).cls = cnm (clsM k) ∧ clsM k < 15 := fun k hk => ⟨⟨(MI_ok1 k hk).1, (MI_ok1 k hk).2, MI_ok2 k hk⟩, MI_ok3 k hk, MI_ok4 k hk⟩
theorem KT_ok : ∀ q ∈ KT, q.2.2.2 < NMc ∧ (q.2.2.1 = 2 ∨ q.2.2.1 = 4 → (yM q.2.2.2).name = "<init>" ∧ retM q.2.2.2 = none) ∧ (q.2.2.1 = 1 → clsM q.2.2.2 < 9) := by decide +kernel
theorem NST_ok : ∀ q ∈ KT, q.2.2.1 = 3 ∨ q.2.2.1 = 4 → ∃ z ∈ NST, z.1 = q.1 ∧ z.2.1 = q.2.1 ∧ z.2.2.1 = q.2.2.2 := by decide +kernel
theorem code_in {k : Nat} (hk : k < NMc) : Jvm.Cond.code (yM k) (byM k) (mxM k) (retM k) ∈ ALL := by
  obtain ⟨i, hi⟩ : ∃ i, MIc[k]? = some i := ⟨_, List.getElem?_eq_getElem (by exact hk)⟩
  have hm : MI[k]? = some i := by
    unfold MI
    rw [List.getElem?_append_left (by exact hk)]
    exact hi
  unfold ALL
  refine List.mem_append_left _ (List.mem_map.mpr ⟨i, List.mem_of_getElem? hi, ?_⟩)
  unfold cdC yM byM mxM retM miOf
  rw [hm]
  rfl
theorem wsM_good {k : Nat} (hk : k < NMc) : GoodIn ALL (wsM k) := by
  intro w hw
  have hin : w ∈ ALL := by
    rcases List.mem_cons.mp hw with rfl | h
    · exact code_in hk
    · exact h
  exact ⟨hin, good_of_word (ALL_good w hin)⟩
theorem KT_in {o ix k a : Nat} (h : (o, ix, k, a) ∈ KT) : (k = 0 ∨ k = 1 ∨ k = 2 → Jvm.Cond.methodLink (cnm o) ix (yM a) ∈ ALL) ∧ (k = 0 ∨ k = 3 → Jvm.Cond.static (yM a) ∈ ALL) ∧ (k = 1 ∨ k = 2 ∨ k = 4 → Jvm.Cond.instanceMethod (yM a) ∈ ALL) ∧ (k = 1 → Jvm.Cond.selects (yM a).cls (yM a) (yM a) ∈ ALL) := by
  have key : ∀ w ∈ kwC (o, ix, k, a), w ∈ ALL := by
    intro w hw
    unfold ALL
    exact List.mem_append_right _ (List.mem_append_right _ (List.mem_append_right _ (List.mem_append_right _ (List.mem_append_left _ (List.mem_flatMap.mpr ⟨_, h, hw⟩)))))
  unfold kwC at key
  dsimp only at key
  refine ⟨fun z => key _ ?_, fun z => key _ ?_, fun z => key _ ?_, fun z => key _ ?_⟩
  · refine List.mem_append_left _ ?_
    rw [if_pos z]
    exact List.mem_cons_self
  · refine List.mem_append_right _ (List.mem_append_left _ ?_)
    rw [if_pos z]
    exact List.mem_cons_self
  · refine List.mem_append_right _ (List.mem_append_right _ (List.mem_append_left _ ?_))
    rw [if_pos z]
    exact List.mem_cons_self
  · refine List.mem_append_right _ (List.mem_append_right _ (List.mem_append_right _ ?_))
    rw [if_pos z]
    exact List.mem_cons_self
theorem OT_in {o ix : Nat} (h : (o, ix) ∈ OT) : Jvm.Cond.methodLink (cnm o) ix Lib.objectInit ∈ ALL := by
  unfold ALL
  exact List.mem_append_right _ (List.mem_append_right _ (List.mem_append_right _ (List.mem_append_right _ (List.mem_append_right _ (List.mem_append_right _ (List.mem_append_right _ (List.mem_append_right _ (List.mem_append_right _ (List.mem_append_right _ (List.mem_append_left _ (List.mem_map.mpr ⟨_, h, rfl⟩)))))))))))
theorem O2_in : ∀ w ∈ A_obj2, w ∈ ALL := by
  intro w h
  unfold ALL
  exact List.mem_append_right _ (List.mem_append_right _ (List.mem_append_right _ (List.mem_append_right _ (List.mem_append_right _ (List.mem_append_right _ (List.mem_append_right _ (List.mem_append_right _ (List.mem_append_right _ (List.mem_append_right _ (List.mem_append_right _ h))))))))))
def Pc_ (D : va_G) (K : Nat → ClassId) (B : Nat) (sd : Nat → Nat) (xs : List Int) (as : List MV) (h : MH) : Array Value → State → Prop := va_Pc (as.map (cv B sd)) (fun U => va_P D CL (wd K B sd h) U.heap ∧ U.heap.size = B + h.length ∧ EnvU D K B sd xs U)
def Qc_ (D : va_G) (K : Nat → ClassId) (B : Nat) (sd : Nat → Nat) (r : Option MV) (h' : MH) : Array Value → State → Outcome → State → Prop := fun _ st oc t => oc = .returned (r.map (cv B sd)) ∧ va_P D CL (wd K B sd h') t.heap ∧ t.heap.size = B + h'.length ∧ va_F (AB B) st t
theorem Pc_blind {D : va_G} {K : Nat → ClassId} {B : Nat} {sd : Nat → Nat} {xs : List Int} {as : List MV} {h : MH} : FrameBlind (Pc_ D K B sd xs as h) := by
  intro a U g mk q
  obtain ⟨q1, q2, q3, q4⟩ := q
  exact ⟨q1, q2, q3, va_K.moved (u := U) (U := U.calling g mk a) (Vm.Alike.refl U.vm) q4.1, fun k n hn => va_Z.moved (u := U) (U := U.calling g mk a) (Vm.Alike.refl U.vm) (q4.2.1 k n hn), fun k hk => va_T.moved (u := U) (U := U.calling g mk a) (Vm.Alike.refl U.vm) (q4.2.2.1 k hk), fun q hq => va_Nw.same (u := U) (U := U.calling g mk a) rfl rfl (q4.2.2.2 q hq)⟩
theorem lay_len (B : Nat) (sd : Nat → Nat) : ∀ as : List MV, (lg_sl (as.map (cv B sd))).length = (lay as).length
  | [] => rfl
  | v :: vs => by
    have ih := lay_len B sd vs
    unfold lg_sl at ih ⊢
    rw [List.map_cons, List.flatMap_cons, List.length_append, ih]
    rcases v with z | z | k | k | b <;> simp [lay, cv, Value.category, Nat.add_comm] <;> omega
theorem lay_args (B : Nat) (sd : Nat → Nat) : ∀ (as : List MV) (off i : Nat) (v : MV), (lay as)[i]? = some v → isU v = false → (off + i, cv B sd v) ∈ lv_args off (as.map (cv B sd))
  | [], off, i, v, h, _ => by simp [lay] at h
  | w :: ws, off, i, v, h, hu => by
    by_cases hw : ∃ z, w = vL z
    · obtain ⟨z, rfl⟩ := hw
      have e1 : lay (vL z :: ws) = vL z :: vU :: lay ws := rfl
      rw [e1] at h
      have e2 : lv_args off ((vL z :: ws).map (cv B sd)) = (off, cv B sd (vL z)) :: lv_args (off + 2) (ws.map (cv B sd)) := rfl
      rw [e2]
      match i, h with
      | 0, h =>
        rw [List.getElem?_cons_zero] at h
        cases h
        exact List.mem_cons_self
      | 1, h =>
        rw [List.getElem?_cons_succ, List.getElem?_cons_zero] at h
        cases h
        simp [isU] at hu
      | i + 2, h =>
        rw [List.getElem?_cons_succ, List.getElem?_cons_succ] at h
        have := lay_args B sd ws (off + 2) i v h hu
        rw [show off + 2 + i = off + (i + 2) by omega] at this
        exact List.mem_cons_of_mem _ this
    · have e1 : lay (w :: ws) = w :: lay ws := by
        rcases w with z | z | k | k | b
        · rfl
        · exact absurd ⟨z, rfl⟩ hw
        · rfl
        · rfl
        · rfl
      have e2 : lv_args off ((w :: ws).map (cv B sd)) = (off, cv B sd w) :: lv_args (off + 1) (ws.map (cv B sd)) := by
        rcases w with z | z | k | k | b
        · rfl
        · exact absurd ⟨z, rfl⟩ hw
        · rfl
        · rfl
        · rfl
      rw [e1] at h
      rw [e2]
      match i, h with
      | 0, h =>
        rw [List.getElem?_cons_zero] at h
        cases h
        exact List.mem_cons_self
      | i + 1, h =>
        rw [List.getElem?_cons_succ] at h
        have := lay_args B sd ws (off + 1) i v h hu
        rw [show off + 1 + i = off + (i + 1) by omega] at this
        exact List.mem_cons_of_mem _ this
theorem LH_entry {B : Nat} {sd : Nat → Nat} {as : List MV} {m : Nat} (hl : (lay as).length ≤ mxM m) : LH B sd ((lg_sl (as.map (cv B sd)) ++ List.replicate (mxM m - (lg_sl (as.map (cv B sd))).length) Slot.unset).toArray) (mxM m) (ini m as) := by
  have h1 := lv_entry (as.map (cv B sd)) (n := mxM m) (by rw [lay_len]; exact hl)
  refine ⟨by unfold ini; rw [List.length_append, List.length_replicate]; omega, h1.1, h1.2.1, fun q hq => h1.2.2 q ?_⟩
  obtain ⟨i, val⟩ := q
  obtain ⟨w, hw, hu, he⟩ := lvl_mem.mp hq
  dsimp only at hw he
  subst he
  unfold ini at hw
  by_cases hi : i < (lay as).length
  · rw [List.getElem?_append_left hi] at hw
    have := lay_args B sd as 0 i w hw hu
    rwa [Nat.zero_add] at this
  · rw [List.getElem?_append_right (by omega)] at hw
    have h2 := List.mem_of_getElem? hw
    rw [List.eq_of_mem_replicate h2] at hu
    simp [isU] at hu
end
section
-- every run of a method of the small machine is a contract of the machine's method
theorem met_of {l : Launch} {y : MethodName} {ws ws' : List Jvm.Cond} {rm : Room} {Pc : Array Value → State → Prop} {Qc : Array Value → State → Outcome → State → Prop} {mc ms : Nat} {free : Addr → Prop} {cc : ByteArray} {maxL : Nat} {ret : Option FieldType}
    (hy : plainFor y = true) (hw : ws = Jvm.Cond.code y cc maxL ret :: ws')
    (body : ∀ p e s m args below meth c s₁, BodyLoose p l y (headSpec ws rm) cc maxL ret e s m args below meth c s₁ → c.maxLocals = maxL → Pc args s →
      W p l e (headSpec ws rm).room s m args below meth c s.heap [] 0 0 (MQ below Qc args s mc ms free) (entryFrame m args maxL)) : Met l y ws rm Pc Qc mc ms free := by
  refine MetFree.of_bodySF (code := cc) (maxLocals := maxL) (ret := ret) hy ?_ ?_
  · intro args s m h hn
    obtain ⟨meth, c, h1, h2, h3, h4, h5, h6, -, -⟩ := Cond.code_spec hn (atoms_spec (ws := ws) h _ (by rw [hw]; exact List.mem_cons_self))
    exact ⟨meth, c, h1, h2, h3, h4, h5, h6⟩
  · intro p e s m args below meth c s₁ B hml hP _
    have hh0 : s₁.heap = s.heap := by rw [B.state]; rfl
    obtain ⟨t, a1, o, b1, b2, b3⟩ := body p e s m args below meth c s₁ B hml hP s₁ hh0 (Stand.of_body B)
    exact ⟨t, o, a1, b1, b2, ⟨b3.1, b3.2⟩⟩
section MTS
variable {p : Program} {l : Launch} {e : Env} {R : Room} {s : State} {m : MethodId} {args : Array Value} {below : List Frame} {meth : Method} {c : Code} {Q : State → Prop}
variable {D : va_G} {K : Nat → ClassId} {B : Nat} {sd : Nat → Nat} {xs : List Int} {mi : Nat}
theorem my_call {H : Heap} {locs : List Loc} {cells slots mc ms pc : Nat} {lsA : Array Slot} {st0 rest : List Value} {a0 : Array Value} {r1 : Option MV} {h2 : MH}
    (hr : va_Run p l e R s m args below meth c H locs cells slots mc ms (F0 m pc lsA st0) rest (Qc_ D K B sd r1 h2 a0) (AB B)) (hS : va_S (AB B) s.heap H locs)
    (kk : ∀ (H1 : Heap) (locs1 : List Loc), va_P D CL (wd K B sd h2) H1 → H1.size = B + h2.length → va_S (AB B) s.heap H1 locs1 → W p l e R s m args below meth c H1 locs1 (cells + mc) (slots + ms) Q (F0 m (pc + 3) lsA ((r1.map (cv B sd)).toList ++ rest))) : W p l e R s m args below meth c H locs cells slots Q (F0 m pc lsA st0) := by
  intro T hT X
  obtain ⟨v, st₀, t, T', L, h0, X', hL, e1, e2, ⟨hv, hp, hsz, hz, hk⟩, st⟩ := hr T hT X
  cases hv
  rw [h0] at hz hk
  obtain ⟨t2, a1, b1⟩ := kk T'.heap (locs ++ L) (by rw [e1]; exact hp) (by rw [e1]; exact hsz)
    ⟨Nat.le_trans hS.1 (by rw [e1]; exact hz), fun q h1 h2 => by rw [e1, hk q (Nat.lt_of_lt_of_le h1 hS.1) h2]; exact hS.2.1 q h1 h2, fun q hq => by
      rcases List.mem_append.mp hq with h | h
      · exact hS.2.2 q h
      · exact hL q h⟩ T' rfl X'
  exact ⟨t2, st t2 a1, b1⟩
theorem cat_sum (B : Nat) (sd : Nat → Nat) (st : List MV) : ((st.map (cv B sd)).map fun v => v.category).sum = csum st := by
  unfold csum
  congr 1
  rw [List.map_map]
  apply List.map_congr_left
  intro v _
  exact cv_cat B sd v
theorem push_map (r1 : Option MV) (rest : List MV) : (r1.map (cv B sd)).toList ++ rest.map (cv B sd) = (pushR r1 rest).map (cv B sd) := by
  cases r1 <;> rfl
/-- the body of a method, from any of its states -/
theorem body_sound (bd : Bd p s m args meth c mi D K B sd xs) {F : Nat} {call : Nat → Nat → List MV → MH → Option (Option MV × MH)}
    (hge : ∀ L a as h r h', call L a as h = some (r, h') → h.length ≤ h'.length ∧ slt h ≤ slt h')
    (hcall : ∀ (L a : Nat) (as : List MV) (h : MH) (r : Option MV) (h' : MH), a < NMc → call L a as h = some (r, h') → ∃ Fr, Fr + 1 ≤ F ∧ Met l (yM a) (wsM a) { frames := Fr, cells := h'.length - h.length, slots := slt h' - slt h, locals := L } (Pc_ D K B sd xs as h) (Qc_ D K B sd r h') (h'.length - h.length) (slt h' - slt h) (AB B))
    (hF : F ≤ R.frames) {Lr : Nat} (hLr : Lr ≤ R.locals) {h0l h0s : Nat} {r : Option MV} {h' : MH} (hcap : h'.length ≤ h0l + R.cells ∧ slt h' ≤ h0s + R.slots)
    (hret : ∀ (pc : Nat) (e0 : EN) (ls st : List MV), code_ mi pc = some e0 → kindI e0.1 = 1 → mret mi e0.1 st = some r → WG p l e R s m args below meth c Q D K B sd (mxM mi) h0l h0s pc ls st h') :
    ∀ (n pc : Nat) (ls st : List MV) (h : MH), goN xs F call n Lr mi pc ls st h = some (r, h') → WG p l e R s m args below meth c Q D K B sd (mxM mi) h0l h0s pc ls st h := by
  intro n
  induction n with
  | zero => intro pc ls st h hr; simp [goN] at hr
  | succ n ih =>
    intro pc ls st h hr
    unfold goN at hr
    cases hco : code_ mi pc with
    | none => rw [hco] at hr; cases hr
    | some e0 =>
      rw [hco] at hr
      dsimp only at hr
      by_cases h1 : kindI e0.1 = 1
      · rw [if_pos h1] at hr
        cases hm : mret mi e0.1 st with
        | none => rw [hm] at hr; cases hr
        | some z =>
          rw [hm] at hr
          simp only [Option.some.injEq, Prod.mk.injEq] at hr
          obtain ⟨rfl, rfl⟩ := hr
          exact hret pc e0 ls st hco h1 hm
      · rw [if_neg h1] at hr
        by_cases h2 : kindI e0.1 = 2
        · rw [if_pos h2] at hr
          cases hm : mcall F call Lr e0 st h with
          | none => rw [hm] at hr; cases hr
          | some z =>
            obtain ⟨st', h2'⟩ := z
            rw [hm] at hr
            have k1 := ih _ _ _ _ hr
            have hge2 := goN_ge hge _ _ _ _ _ _ _ _ _ hr
            obtain ⟨I, np, a, b, cst⟩ := e0
            have hok := code_ok hco
            have hX := eok_x hok
            obtain ⟨hx, hb, hml, hown, hts, hnm, hE, hB⟩ := bd
            have hsw : isSw I = false := by
              dsimp only at h2
              cases I <;> first | rfl | (simp [kindI] at h2; done)
            obtain ⟨hn, hd⟩ := eok_len hok hsw
            have hl3 : lenI I = 3 := by
              dsimp only at h2
              cases I <;> first | rfl | (simp [kindI] at h2; done)
            rw [hl3] at hn hd
            subst hn
            intro H locs lsA k j hk hj hP hz hS hL
            rcases mcall_some hm with ⟨rfl, rfl, hF1, hL1, hc8, q, rfl⟩ | ⟨hb5, as, rest, r1, hst, hal, hc8, hrm, hrecv, hcl, rfl⟩
            · -- Object's own
              obtain ⟨ix, rfl, hO⟩ : ∃ ix, I = .invokespecial ix ∧ (clsM mi, ix) ∈ OT := by
                dsimp only at h2
                cases I with
                | invokespecial ix =>
                  simp [eokX] at hX
                  exact ⟨ix, rfl, hX⟩
                | invokestatic ix => simp [eokX] at hX
                | invokevirtual ix => simp [eokX] at hX
                | _ => simp [kindI] at h2
              have hw2 : ∀ w ∈ A_obj2, w.before args s = true := fun w hw => hts w (O2_in w hw)
              refine W.objInit hx hb hown (hts _ (OT_in hO)) (hw2 _ (by simp [A_obj2])) (hw2 _ (by simp [A_obj2])) rfl (by rw [hml]; exact hL.2.1) rfl hd (by omega) ?_ ?_
              · have := cat_sum B sd st'
                show 2 * 0 + _ + 12 ≤ _
                rw [this]; omega
              · exact k1 H locs lsA k j hk hj hP hz hS hL
            · -- a call of ours
              have hKq : ∃ ix, (clsM mi, ix, b, a) ∈ KT ∧ ((I = .invokestatic ix ∧ (b = 0 ∨ b = 3)) ∨ (I = .invokevirtual ix ∧ b = 1) ∨ (I = .invokespecial ix ∧ (b = 2 ∨ b = 4))) := by
                dsimp only at h2
                cases I with
                | invokespecial ix =>
                  simp [eokX, hb5] at hX
                  exact ⟨ix, hX.1, Or.inr (Or.inr ⟨rfl, hX.2⟩)⟩
                | invokestatic ix =>
                  simp [eokX] at hX
                  exact ⟨ix, hX.1, Or.inl ⟨rfl, hX.2⟩⟩
                | invokevirtual ix =>
                  simp [eokX] at hX
                  exact ⟨ix, hX.1, Or.inr (Or.inl ⟨rfl, hX.2⟩)⟩
                | _ => simp [kindI] at h2
              obtain ⟨ix, hKT, hcase⟩ := hKq
              obtain ⟨hNM, hini, hc9⟩ := KT_ok _ hKT
              dsimp only at hNM hini hc9
              obtain ⟨w1, w2, w3, w4⟩ := KT_in hKT
              obtain ⟨Fr, hFr, hM⟩ := hcall _ a as h r1 h2' hNM hcl
              have hg2 := hge _ _ _ _ _ _ hcl
              obtain ⟨o1, o2, o3, o4⟩ := MI_ok a hNM
              have hg : GoodIn ALL (wsM a) := wsM_good hNM
              have hcin : (Jvm.Cond.initialized (yM a).cls).before args s = true := by rw [o3]; exact hts _ (CN_in o4)
              have hR9 : ({ frames := Fr, cells := h2'.length - h.length, slots := slt h2' - slt h, locals := Lr - (19 + mxM a) } : Room).frames + 1 ≤ R.frames ∧ 8 + (mxM a + 11) + ({ frames := Fr, cells := h2'.length - h.length, slots := slt h2' - slt h, locals := Lr - (19 + mxM a) } : Room).locals ≤ R.locals := ⟨Nat.le_trans hFr hF, by show 8 + (mxM a + 11) + (Lr - (19 + mxM a)) ≤ R.locals; omega⟩
              have hpre : ∀ U : State, U.heap = H → s.WarmedH U.vm → Pc_ D K B sd xs as h (as.map (cv B sd)).toArray U := fun U hU hW => ⟨rfl, by rw [hU]; exact hP, by rw [hU]; exact hz, hE.moved hW (fun q hq hA => by rw [hU]; exact hS.2.1 q hq hA)⟩
              have hc9' : ((rest.map (cv B sd)).map fun v => v.category).sum ≤ 8 := by rw [cat_sum]; exact hc8
              have fin : ∀ {st0 : List Value}, va_Run p l e R s m args below meth c H locs k j (h2'.length - h.length) (slt h2' - slt h) (F0 m pc lsA st0) (rest.map (cv B sd)) (Qc_ D K B sd r1 h2' (as.map (cv B sd)).toArray) (AB B) → W p l e R s m args below meth c H locs k j Q (F0 m pc lsA st0) := by
                intro st0 hr9
                refine my_call hr9 hS (fun H1 locs1 p1 z1 s1 => ?_)
                rw [push_map]
                exact k1 H1 locs1 lsA _ _ (by omega) (by omega) p1 z1 s1 hL
              have hf9 : k + (h2'.length - h.length) ≤ R.cells ∧ j + (slt h2' - slt h) ≤ R.slots := by constructor <;> omega
              have hst9 : st.map (cv B sd) = (as.map (cv B sd)).reverse ++ rest.map (cv B sd) := by rw [hst, List.map_append, List.map_reverse]
              rw [hst9]
              rcases hcase with ⟨rfl, hb9⟩ | ⟨rfl, rfl⟩ | ⟨rfl, hb9⟩
              · have hnn : as.length = npM a := by rw [hal]; unfold naC; rw [if_pos hb9]; rfl
                rcases hb9 with rfl | rfl
                · exact fin (va_runS (As := as.map (cv B sd)) (rest := rest.map (cv B sd)) ⟨hx, hb, hml, hown, hts⟩ hM ⟨callB_of (npM a) hts hg rfl rfl rfl hcin (hts _ (w1 (Or.inl rfl))) o1 hR9, hts _ (w2 (Or.inl rfl))⟩ ⟨Pc_blind, hpre⟩ rfl (by rw [List.length_map]; exact hnn) hL.2.1 rfl (lv_room hc9') hd hf9)
                · obtain ⟨z9, hz9, z1, z2, z3⟩ := NST_ok _ hKT (Or.inl rfl)
                  have hnw := hE.2.2.2 z9 hz9
                  rw [z1, z2, z3] at hnw
                  exact fin (va_runSN (As := as.map (cv B sd)) (rest := rest.map (cv B sd)) ⟨hx, hb, hml, hown, hts⟩ hM ⟨va_cnB (npM a) hts hg rfl rfl rfl hnw hcin o1 hR9, hts _ (w2 (Or.inr rfl)), trivial⟩ ⟨Pc_blind, hpre⟩ rfl (by rw [List.length_map]; exact hnn) hL.2.1 rfl (lv_room hc9') hd hf9)
              · -- a receiver
                obtain ⟨q, as', rfl, fs, hq⟩ : ∃ q as', as = vR q :: as' ∧ ∃ fs, h[q]? = some (.inl (clsM a, fs)) := by
                  simp only [recvOK] at hrecv
                  rcases as with _ | ⟨v, as'⟩
                  · simp at hrecv
                  · rcases v with z | z | z | z | z
                    · simp at hrecv
                    · simp at hrecv
                    · simp only at hrecv
                      cases hh : h[z]? with
                      | none => rw [hh] at hrecv; simp at hrecv
                      | some y =>
                        rw [hh] at hrecv
                        rcases y with ⟨ci, fs⟩ | ⟨y1, y2⟩
                        · simp at hrecv
                          exact ⟨z, as', rfl, fs, by rw [← hrecv]; exact hh⟩
                        · simp at hrecv
                    · simp at hrecv
                    · simp at hrecv
                have hnn : as'.length = npM a := by
                  have : (vR q :: as').length = npM a + 1 := by rw [hal]; rfl
                  simpa using this
                obtain ⟨⟨C, T, N⟩, hCL⟩ : ∃ z, CL[clsM a]? = some z := ⟨_, List.getElem?_eq_getElem (by exact hc9 rfl)⟩
                obtain ⟨t1, t2, t3, t4⟩ := CL_get hCL
                have hrv := va_recv hE.1 hP hCL (wd_at (K := K) (B := B) (sd := sd) hq)
                dsimp only at hrv
                rw [← t3, ← o3] at hrv
                refine fin (st0 := ((vR q :: as').map (cv B sd)).reverse ++ rest.map (cv B sd)) ?_
                have hs5 : ((vR q :: as').map (cv B sd)).reverse ++ rest.map (cv B sd) = (as'.map (cv B sd)).reverse ++ Value.ref (B + q) :: rest.map (cv B sd) := by simp [cv]
                exact va_runV (C := (yM a).cls) (b := B + q) (As := as'.map (cv B sd)) (rest := rest.map (cv B sd)) ⟨hx, hb, hml, hown, hts⟩ hM ⟨callB_of (npM a) hts hg rfl rfl rfl hcin (hts _ (w1 (Or.inr (Or.inl rfl)))) o1 hR9, hts _ (w3 (Or.inl rfl)), hts _ (w4 rfl)⟩ ⟨Pc_blind, hrv, hpre⟩ rfl (by rw [List.length_map]; exact hnn) hL.2.1 hs5 (lv_room hc9') hd hf9
              · obtain ⟨hi1, hi2⟩ := hini hb9
                have hb03 : ¬ (b = 0 ∨ b = 3) := by omega
                obtain ⟨q, as', rfl⟩ : ∃ q as', as = vR q :: as' := by
                  simp only [recvOK] at hrecv
                  have e0 : (b == 0) = false := by simp; omega
                  have e3 : (b == 3) = false := by simp; omega
                  rw [e0, e3] at hrecv
                  rcases as with _ | ⟨v, as'⟩
                  · simp at hrecv
                  · rcases v with z | z | z | z | z
                    · simp at hrecv
                    · simp at hrecv
                    · exact ⟨z, as', rfl⟩
                    · simp at hrecv
                    · simp at hrecv
                have hnn : as'.length = npM a := by
                  have : (vR q :: as').length = npM a + 1 := by rw [hal]; unfold naC; rw [if_neg hb03]
                  simpa using this
                refine fin (st0 := ((vR q :: as').map (cv B sd)).reverse ++ rest.map (cv B sd)) ?_
                have hs5 : ((vR q :: as').map (cv B sd)).reverse ++ rest.map (cv B sd) = (as'.map (cv B sd)).reverse ++ Value.ref (B + q) :: rest.map (cv B sd) := by simp [cv]
                have hwr : wsM a = Jvm.Cond.code (yM a) (byM a) (mxM a) none :: ALL := by unfold wsM; rw [hi2]
                rcases hb9 with rfl | rfl
                · exact va_runI (b := B + q) (As := as'.map (cv B sd)) (rest := rest.map (cv B sd)) ⟨hx, hb, hml, hown, hts⟩ hM ⟨callB_of (npM a) hts hg hwr rfl rfl hcin (hts _ (w1 (Or.inr (Or.inr rfl)))) o1 hR9, hi1, hts _ (w3 (Or.inr (Or.inl rfl)))⟩ ⟨Pc_blind, hpre⟩ rfl (by rw [List.length_map]; exact hnn) hL.2.1 hs5 (lv_room hc9') hd hf9
                · obtain ⟨z9, hz9, z1, z2, z3⟩ := NST_ok _ hKT (Or.inr rfl)
                  have hnw := hE.2.2.2 z9 hz9
                  rw [z1, z2, z3] at hnw
                  exact va_runIN (b := B + q) (As := as'.map (cv B sd)) (rest := rest.map (cv B sd)) ⟨hx, hb, hml, hown, hts⟩ hM ⟨va_cnB (npM a) hts hg hwr rfl rfl hnw hcin o1 hR9, hi1, hts _ (w3 (Or.inr (Or.inr rfl)))⟩ ⟨Pc_blind, hpre⟩ rfl (by rw [List.length_map]; exact hnn) hL.2.1 hs5 (lv_room hc9') hd hf9
        · rw [if_neg h2] at hr
          cases hs : sstep xs pc e0 ls st h with
          | none => rw [hs] at hr; cases hr
          | some z =>
            obtain ⟨pc', ls', st', h1'⟩ := z
            rw [hs] at hr
            have g1 := goN_ge hge _ _ _ _ _ _ _ _ _ hr
            exact step_all bd hco hs ⟨Nat.le_trans g1.1 hcap.1, Nat.le_trans g1.2 hcap.2⟩ (ih _ _ _ _ hr)
end MTS
theorem main_met {xs : List Int} : ∀ (F n Lr mi : Nat) (as : List MV) (h : MH) (r : Option MV) (h' : MH), exec xs F n Lr mi as h = some (r, h') → mi < NMc → ∀ (l : Launch) (D : va_G) (K : Nat → ClassId) (B : Nat) (sd : Nat → Nat),
    Met l (yM mi) (wsM mi) { frames := F - 1, cells := h'.length - h.length, slots := slt h' - slt h, locals := Lr } (Pc_ D K B sd xs as h) (Qc_ D K B sd r h') (h'.length - h.length) (slt h' - slt h) (AB B) := by
  intro F
  induction F with
  | zero => intro n Lr mi as h r h' hr; simp [exec] at hr
  | succ F ih =>
    intro n Lr mi as h r h' hr hmi l D K B sd
    obtain ⟨o1, o2, o3, o4⟩ := MI_ok mi hmi
    refine met_of (cc := byM mi) (maxL := mxM mi) (ret := retM mi) o2 rfl ?_
    intro p e s m args below meth c s₁ Bo hml hv
    obtain ⟨rfl, hP, hz, hE⟩ := hv
    have hx := Bo.exec
    have hb := Bo.bytes
    have hrt := Bo.returns
    have hts := atoms_spec (ws := wsM mi) Bo.pre
    have hown : s.vm.findClass (yM mi).cls = some m.cls := findClass_of_methodNamed Bo.named
    rw [o3] at hown
    have hlk := Bo.notSynchronized
    have hnm : meth.name = (yM mi).name := (name_of_methodNamed Bo.named Bo.method).1
    have hgo := exec_ge _ _ _ _ _ _ _ _ hr
    unfold exec at hr
    by_cases hl : (lay as).length ≤ mxM mi
    · rw [if_pos hl] at hr
      have bd : Bd p s m (as.map (cv B sd)).toArray meth c mi D K B sd xs := ⟨hx, hb, hml, hown, fun w hw => hts w (List.mem_cons_of_mem _ hw), fun z => by rw [hnm]; exact z, hE, by omega⟩
      rw [lg_entry_eq]
      have hLH := LH_entry (B := B) (sd := sd) hl
      generalize (lg_sl (as.map (cv B sd)) ++ List.replicate (mxM mi - (lg_sl (as.map (cv B sd))).length) Slot.unset).toArray = lsA at hLH ⊢
      refine body_sound bd (F := F) (fun L a as h r h' hq => exec_ge _ _ _ _ _ _ _ _ hq) (fun L a as h r h' ha hq => ?_) (by show F ≤ F + 1 - 1; omega) (Nat.le_refl _) (r := r) (h' := h') (h0l := h.length) (h0s := slt h) ⟨by show h'.length ≤ h.length + (h'.length - h.length); omega, by show slt h' ≤ slt h + (slt h' - slt h); omega⟩ ?_ n 0 (ini mi as) [] h hr s.heap [] lsA 0 0 rfl rfl hP hz va_S.rf hLH
      · cases F with
        | zero => simp [exec] at hq
        | succ F => exact ⟨F, Nat.le_refl _, ih n L a as h r h' hq ha l D K B sd⟩
      · intro pc e0 ls st hco hk1 hm H locs lsA k j hk hj hP hz hS hL
        obtain ⟨I, np, a, b, cst⟩ := e0
        have hok := code_ok hco
        have hkk : k = h'.length - h.length := by omega
        have hjj : j = slt h' - slt h := by omega
        rw [← hkk, ← hjj]
        have hq : ∀ t : State, t.heap = H → s.WarmedH t.vm → Qc_ D K B sd r h' (as.map (cv B sd)).toArray s (.returned (r.map (cv B sd))) t := fun t ht hW => ⟨rfl, by rw [ht]; exact hP, by rw [ht]; exact hz, hS.F ht⟩
        have hf : ∀ q ∈ locs, AB B q.base := hS.2.2
        cases I with
        | ireturn =>
          obtain ⟨hn, hd⟩ := eok_len hok rfl
          simp only [mret] at hm
          split at hm
          · next z =>
            split at hm
            · next hz9 =>
              cases hm
              rcases hz9 with h9 | ⟨h9, h10⟩
              · exact W.iret (v := Int32.ofInt z) hx hb (by rw [hrt, h9]) hq hf hd (hlocks := hlk)
              · refine W.zret (v := Int32.ofInt z) (ty := .boolean) hx hb (by rw [hrt, h9]) ?_ hq hf hd (hlocks := hlk)
                rcases h10 with rfl | rfl
                · exact nb0
                · exact nb1
            · cases hm
          · cases hm
        | lreturn =>
          obtain ⟨hn, hd⟩ := eok_len hok rfl
          simp only [mret] at hm
          split at hm
          · next z =>
            split at hm
            · next hz9 =>
              cases hm
              exact W.lret (v := Int64.ofInt z) hx hb (by rw [hrt, hz9]) hq hf hd (hlocks := hlk)
            · cases hm
          · cases hm
        | areturn =>
          obtain ⟨hn, hd⟩ := eok_len hok rfl
          simp only [mret] at hm
          split at hm
          · next z =>
            split at hm
            · next n9 hz9 =>
              cases hm
              exact W.aret (v := .ref (B + z)) (rt := .object n9) hx hb (by rw [hrt, hz9]) (Or.inl ⟨_, rfl⟩) (Or.inr ⟨_, rfl⟩) hq hf hd (hlocks := hlk)
            · cases hm
          · cases hm
        | return_ =>
          obtain ⟨hn, hd⟩ := eok_len hok rfl
          simp only [mret] at hm
          split at hm
          · split at hm
            · next hz9 =>
              cases hm
              exact W.vret hx hb (by rw [hrt, hz9]) hq hf hd (hlocks := hlk)
            · cases hm
          · cases hm
        | _ => simp [kindI] at hk1
    · rw [if_neg hl] at hr; cases hr
end
section
-- STAND-IN till the small machine's law is walked
theorem law_Rn (xs : List Int) (hx : ∀ z ∈ xs, inR z) (hL : xs.length ≤ 448) : ∃ h', Rn xs m_Law_law 0 [vS 3, vU, vU, vU] [] [] (some (vI 1)) h' ∧ h'.length ≤ 51 ∧ slt h' ≤ 872 := by
  sorry
end
section
-- ===== end of PART A; then your names; then what follows =====
/-! THE CLAIM OUT OF ONE WALK OF THE LAW'S BODY. Your part is whole_start (and what it stands on); all else here is the same for every law, but numbers. -/
def R_law : String := "FourRodsLaw"
def lw_P (b : Addr) (xs : List Int32) (args : Array Value) (s : State) : Prop := args = #[.ref b] ∧ s.IntsAt b xs ∧ xs.length ≤ 448 ∧ (Jvm.Cond.and given_1 narrow_1).before args s = true
def lw_Q (_ : Array Value) (s : State) (o : Outcome) (t : State) : Prop := o = .returned (some (.int 1)) ∧ Framed s o t [] 51 872
def lw_Z (below : List Frame) (a : Array Value) (s : State) : State → Prop := fun t => ∃ o, t.status = .running ∧ Ended t below o ∧ lw_Q a s o t
/-- the law's own end, with 1 on the stack, nothing written that was there before, its room as the claim has it -/
theorem lw_ret {p : Program} {l : Launch} {e : Env} {s : State} {m : MethodId} {below : List Frame} {meth : Method} {c : Code} {b : Nat} (hx : p.tables.exec = Jvm.exec) (hb : c.code = code) (hr : meth.sig.returnType = ret) (hlocks : meth.locks = false) {pc : Nat} {H : Heap} {ls : Array Slot} (hdg : decode code pc = .ok (.ireturn, 1)) : W p l e room_1 s m #[Value.ref b] below meth c H [] 51 872 (lw_Z below #[Value.ref b] s) (F0 m pc ls [.int 1]) := by
  intro T hT X
  obtain ⟨fs, hret, hrun, hended, hW, hframe⟩ := X.leave (v := some (.int 1)) (hlocks := hlocks) (fun h => by rw [hr] at h; cases h)
  have hmeth' : T.vm.method? m = some meth := X.method'
  refine ⟨T.setFrames fs, ?_, .returned (some (.int 1)), hrun, hended, rfl, ⟨_, rfl⟩, hW, hframe⟩
  jvm_step X.here [X.here.top, hx, hb, hdg, hmeth', hr, ret, narrow_b1]
  (try refine ⟨rfl, ?_⟩); (try refine ⟨rfl, ?_⟩)
  first | (intro acts; rw [hret _ acts rfl rfl rfl]) | rw [hret _ _ rfl rfl rfl]
  exact Steps.refl _
/-- what holds at the law's entry: the machine, the code, the tables' words (any of lw_tbl by 'hts w (by decide +kernel)'), the script of L ints xs at the cell b, what the Statement gives of the start (any of its parts by flat_of_before) -/
def lw_At (p : Program) (s : State) (m : MethodId) (meth : Method) (c : Code) (b L : Nat) (xs : Nat → Int32) : Prop :=
  p.tables.exec = Jvm.exec ∧ c.code = code ∧ meth.sig.returnType = ret ∧ c.maxLocals = 4 ∧ s.vm.findClass R_law = some m.cls ∧ (∀ w ∈ lw_tbl, w.before #[Value.ref b] s = true) ∧ va_X b L xs s s.heap ∧ b < s.heap.size ∧ meth.locks = false ∧ (Jvm.Cond.and given_1 narrow_1).before #[Value.ref b] s = true
-- ===== YOUR PART BEGINS =====
theorem st_of {args : Array Value} {s : State} {n : String} {vs : List Int} (hlen8 : vs.length = 8) (hl : (Jvm.Cond.laysStatic SOW n "[I").before args s = true) (hini : (Jvm.Cond.initialized SOW).before args s = true) (harr : (Jvm.Cond.arrayOf (.static SOW n "[I") .int).before args s = true)
    (hlen : (Jvm.Cond.eq (.length (.static SOW n "[I")) (.int 8)).before args s = true) (hel : ∀ j : Nat, j < 8 → (Jvm.Cond.eq (.elem (.static SOW n "[I") (.int (Int32.ofNat j))) (.int (fI vs j))).before args s = true) :
    ∃ t, va_Z SOW n "[I" (.ref t) (AB s.heap.size) s s.heap ∧ va_T .int t vs.length (fun j => .int (fI vs j)) (AB s.heap.size) s s.heap := by
  have hA : ∀ a : Nat, a < s.heap.size → ¬ AB s.heap.size a := fun a h => Nat.not_le.mpr h
  obtain ⟨t, ht, hT⟩ := va_Tof (tm := .static SOW n "[I") (ty := .int) (N := 8) (f := fun j => .int (fI vs j)) (A := AB s.heap.size) (by decide) harr (va_eqt hlen) (fun j hj => va_eqt (hel j hj)) hA
  rw [hlen8]
  exact ⟨t, va_Zref hl hini ht hA, hT⟩
set_option maxHeartbeats 4000000 in
set_option maxRecDepth 100000 in
theorem env_start {s : State} {b L : Nat} {xs : Nat → Int32} (hts : ∀ w ∈ lw_tbl, w.before #[Value.ref b] s = true) (hX : va_X b L xs s s.heap) (hbl : b < s.heap.size) (hgv : (Jvm.Cond.and given_1 narrow_1).before #[Value.ref b] s = true) :
    ∃ (D : va_G) (K : Nat → ClassId) (sd : Nat → Nat), EnvU D K s.heap.size sd ((List.range L).map (fun j => (xs j).toInt)) s ∧ sd 3 = b := by
  have htA : ∀ w ∈ ALL, w.before #[Value.ref b] s = true := fun w hw => hts w (ALL_in w hw)
  have hs := flat_of_before _ hgv
  have kn : ∀ a, a < 9 → ∃ (C : String) (T : u_T) (N : Nat) (cC : ClassId) (iS : Nat → Nat), CL[a]? = some (C, T, N) ∧ u_Kn s C T N cC iS := by
    intro a ha
    obtain ⟨⟨C, T, N⟩, hCL⟩ : ∃ z, CL[a]? = some z := ⟨_, List.getElem?_eq_getElem (by exact ha)⟩
    obtain ⟨t1, t2, t3, t4⟩ := CL_get hCL
    have hinst : Jvm.Cond.instantiable C N ∈ lw_tbl := by
      have h9 : ∀ k, k < 9 → Jvm.Cond.instantiable (cnm k) (nfC k) ∈ lw_tbl := inst_in
      have := h9 a ha
      rwa [t3, t4] at this
    obtain ⟨cC, iS, hK⟩ := u_known (C := C) (T := T) (N := N) (n := N) htA (CL_in hCL) (hts _ hinst)
    exact ⟨C, T, N, cC, iS, hCL, hK⟩
  obtain ⟨D, hD⟩ : ∃ D : va_G, ∀ (a : Nat) (q : vw_C), CL[a]? = some q → u_Kn s q.1 q.2.1 q.2.2 (D.1 a) (D.2 a) := by
    have h : ∀ a : Nat, ∃ z : ClassId × (Nat → Nat), ∀ q : vw_C, CL[a]? = some q → u_Kn s q.1 q.2.1 q.2.2 z.1 z.2 := by
      intro a
      by_cases ha : a < 9
      · obtain ⟨C, T, N, cC, iS, hCL, hK⟩ := kn a ha
        refine ⟨(cC, iS), fun q hq => ?_⟩
        rw [hCL] at hq
        cases hq
        exact hK
      · refine ⟨(0, fun _ => 0), fun q hq => ?_⟩
        rw [List.getElem?_eq_none (by show 9 ≤ a; omega)] at hq
        cases hq
    exact ⟨(fun a => (Classical.choose (h a)).1, fun a => (Classical.choose (h a)).2), fun a q hq => Classical.choose_spec (h a) q hq⟩
  have arr : ∀ t : FieldType, t = .int ∨ t = .long ∨ t = .boolean → ∃ cA, ArrOfT s cA t ∧ va_RA s cA t := by
    intro t ht
    obtain ⟨cA, kA, comp, h1, h2, h3⟩ := Cond.arrayClass_spec (htA _ (AR_in ht))
    refine ⟨cA, fun n z => ⟨fun k h => (by cases h), kA, h2, comp, h3⟩, ?_⟩
    rcases ht with rfl | rfl | rfl <;> exact h1
  obtain ⟨k0, a0⟩ := arr .int (Or.inl rfl)
  obtain ⟨k1, a1⟩ := arr .long (Or.inr (Or.inl rfl))
  obtain ⟨k2, a2⟩ := arr .boolean (Or.inr (Or.inr rfl))
  have hini : (Jvm.Cond.initialized SOW).before #[Value.ref b] s = true := htA _ (CN_in (o := 11) (by decide))
  obtain ⟨t0, z0, T0⟩ := st_of (vs := SA [] 0) (n := "SIDES") rfl (hts _ lays0) hini (hs _ (by decide +kernel)) (hs _ (by decide +kernel)) (fun j hj => hs _ ((by decide +kernel : ∀ j, j < 8 → Jvm.Cond.eq (.elem (.static SOW "SIDES" "[I") (.int (Int32.ofNat j))) (.int (fI (SA [] 0) j)) ∈ flatC (Jvm.Cond.and given_1 narrow_1)) j hj))
  obtain ⟨t1, z1, T1⟩ := st_of (vs := SA [] 1) (n := "MEN") rfl (hts _ lays1) hini (hs _ (by decide +kernel)) (hs _ (by decide +kernel)) (fun j hj => hs _ ((by decide +kernel : ∀ j, j < 8 → Jvm.Cond.eq (.elem (.static SOW "MEN" "[I") (.int (Int32.ofNat j))) (.int (fI (SA [] 1) j)) ∈ flatC (Jvm.Cond.and given_1 narrow_1)) j hj))
  obtain ⟨t2, z2, T2⟩ := st_of (vs := SA [] 2) (n := "GAPS") rfl (hts _ lays2) hini (hs _ (by decide +kernel)) (hs _ (by decide +kernel)) (fun j hj => hs _ ((by decide +kernel : ∀ j, j < 8 → Jvm.Cond.eq (.elem (.static SOW "GAPS" "[I") (.int (Int32.ofNat j))) (.int (fI (SA [] 2) j)) ∈ flatC (Jvm.Cond.and given_1 narrow_1)) j hj))
  refine ⟨D, fun k => if k = 0 then k0 else if k = 1 then k1 else k2, fun k => if k = 0 then t0 else if k = 1 then t1 else if k = 2 then t2 else b, ⟨⟨hD, ?_⟩, ?_, ?_, ?_⟩, rfl⟩
  · intro k q hq
    match k, hq with
    | 0, hq => cases hq; exact a0
    | 1, hq => cases hq; exact a1
    | 2, hq => cases hq; exact a2
    | k + 3, hq => simp at hq
  · intro k n hn
    match k, hn with
    | 0, hn => cases hn; exact z0
    | 1, hn => cases hn; exact z1
    | 2, hn => cases hn; exact z2
    | k + 3, hn => simp [SNm] at hn
  · intro k hk
    match k, hk with
    | 0, _ => exact T0
    | 1, _ => exact T1
    | 2, _ => exact T2
    | 3, _ =>
      obtain ⟨scr, h1, h2, h3, h4, h5⟩ := hX
      have hlen : (SA ((List.range L).map (fun j => (xs j).toInt)) 3).length = L := by simp [SA]
      refine ⟨scr, h1, h2, h3, (Nat.le_of_eq (by rw [hlen, h4])), (by rw [hlen, h4]; first | done | rfl), fun j hj => ?_, Nat.not_le.mpr hbl⟩
      rw [hlen] at hj
      rw [h5 j hj]
      have : fI (SA ((List.range L).map (fun j => (xs j).toInt)) 3) j = xs j := by
        show Int32.ofInt (((List.range L).map (fun j => (xs j).toInt)).getD j 0) = xs j
        rw [List.getD_eq_getElem?_getD, List.getElem?_map, List.getElem?_range hj]
        exact n_ofTo (xs j)
      show some (Value.int (xs j)) = some (Value.int (fI (SA ((List.range L).map (fun j => (xs j).toInt)) 3) j))
      rw [this]
  · intro q hq
    exact va_Nw.of rfl (hts _ (NST_in _ (List.mem_map.mpr ⟨q, hq, rfl⟩)))
set_option maxHeartbeats 4000000 in
theorem whole_start {p : Program} {e : Env} {s : State} {m : MethodId} {below : List Frame} {meth : Method} {c : Code} (l : Launch) (hflags : l.flags = flags0) {b L : Nat} {xs : Nat → Int32} (hL : L ≤ 448) (C0 : lw_At p s m meth c b L xs) : W p l e room_1 s m #[Value.ref b] below meth c s.heap [] 0 0 (lw_Z below #[Value.ref b] s) (entryFrame m ([Value.ref b] : List Value).toArray 4) := by
  obtain ⟨hx, hb, hr, hml, hown, hts, hX, hbl, hlocks, hgv⟩ := C0
  obtain ⟨D, K, sd, hE, hsd⟩ := env_start hts hX hbl hgv
  generalize hxi : (List.range L).map (fun j => (xs j).toInt) = xi at hE
  obtain ⟨h', ⟨n, hn⟩, hc1, hc2⟩ := law_Rn xi (by
    intro z hz
    rw [← hxi] at hz
    obtain ⟨j, -, rfl⟩ := List.mem_map.mp hz
    have := Int32.le_toInt (xs j)
    have := Int32.toInt_lt (xs j)
    constructor <;> omega) (by rw [← hxi]; simp; exact hL)
  have hn2 := goN_mono (fun L L' a as h r hL hr => exec_mono (FDp m_Law_law) 13 n n L L' a as h r (by decide +kernel) (Nat.le_refl _) hL hr) (F' := 13) (by decide +kernel) n n (LDp m_Law_law) 490 m_Law_law 0 _ _ _ _ (Nat.le_refl _) (by decide +kernel) hn
  have bd : Bd p s m #[Value.ref b] meth c m_Law_law D K s.heap.size sd xi := ⟨hx, hb, hml, hown, fun w hw => hts w (ALL_in w hw), (fun z => absurd z (by decide +kernel)), hE, Nat.le_refl _⟩
  rw [lg_entry_eq]
  have hl := lv_entry ([.ref b]) (n := 4) (Nat.le_of_ble_eq_true rfl)
  generalize (lg_sl ([.ref b]) ++ List.replicate (4 - (lg_sl ([.ref b])).length) Slot.unset).toArray = lsA at hl ⊢
  have hLH : LH s.heap.size sd lsA 4 [vS 3, vU, vU, vU] := by
    refine ⟨rfl, hl.1, hl.2.1, fun q hq => hl.2.2 q ?_⟩
    obtain ⟨v, h1, h2, h3⟩ := lvl_mem.mp hq
    obtain ⟨i, val⟩ := q
    dsimp only at h1 h3
    match i, h1 with
    | 0, h1 => cases h1; rw [h3]; show _ ∈ [(0, Value.ref b)]; simp [cv, hsd]
    | 1, h1 => cases h1; simp [isU] at h2
    | 2, h1 => cases h1; simp [isU] at h2
    | 3, h1 => cases h1; simp [isU] at h2
    | i + 4, h1 => simp at h1
  refine body_sound (R := room_1) bd (F := 13) (fun L a as h r h' hq => exec_ge _ _ _ _ _ _ _ _ hq) (fun L a as h r h' ha hq => ⟨12, Nat.le_refl _, main_met 13 n L a as h r h' hq ha l D K s.heap.size sd⟩) (Nat.le_refl _) (Nat.le_refl _) (r := some (vI 1)) (h' := h') (h0l := 0) (h0s := 0) ⟨by show h'.length ≤ 0 + 51; omega, by show slt h' ≤ 0 + 872; omega⟩ ?_ n 0 _ _ [] hn2 s.heap [] lsA 0 0 rfl rfl (fun k q h => by simp [wd] at h) (Nat.add_zero _).symm va_S.rf hLH
  intro pc e0 ls st hco hk1 hm H locs lsB k j hk hj hP hz hS hLb
  obtain ⟨I, np, a, b9, cst⟩ := e0
  have hok := code_ok hco
  cases I with
  | ireturn =>
    obtain ⟨hn3, hd⟩ := eok_len hok rfl
    simp only [mret] at hm
    split at hm
    · next z =>
      split at hm
      · cases hm
        refine va_forget hS.2.2 (W.widen (k := 51) (n := 872) (by omega) (by omega) ?_)
        exact lw_ret hx hb hr hlocks hd
      · cases hm
    · cases hm
  | lreturn =>
    simp only [mret] at hm
    split at hm
    · split at hm
      · cases hm
      · cases hm
    · cases hm
  | areturn =>
    simp only [mret] at hm
    split at hm
    · split at hm
      · cases hm
      · cases hm
    · cases hm
  | return_ =>
    simp only [mret] at hm
    split at hm
    · split at hm
      · cases hm
      · cases hm
    · cases hm
  | _ => simp [kindI] at hk1
-- ===== YOUR PART ENDS =====
set_option maxHeartbeats 4000000 in
theorem lw_walk (l : Launch) (hflags : l.flags = flags0) (b : Addr) (xs : List Int32) : MetFree l x (headSpec (Jvm.Cond.code x code maxLocals ret :: tables_1) room_1) (lw_P b xs) (fun _ _ _ _ _ => True) lw_Q := by
  refine MetFree.of_bodyS (code := code) (maxLocals := maxLocals) (ret := ret) (by decide) ?_ ?_
  · intro args s m h hn
    obtain ⟨meth, c, h1, h2, h3, h4, h5, h6, -, -⟩ := Cond.code_spec hn (atoms_spec (ws := Jvm.Cond.code x code maxLocals ret :: tables_1) h _ List.mem_cons_self)
    exact ⟨meth, c, h1, h2, h3, h4, h5, h6⟩
  · intro p e s m args below meth c s₁ B hml0 hP _
    obtain ⟨rfl, hx, hbd, hgv⟩ := hP
    obtain ⟨scr, harrAt, hlist, hof, hsmall⟩ := hx
    obtain ⟨hcb, hkn, -, -⟩ := State.arrayAt?_spec harrAt
    have hown : s.vm.findClass R_law = some m.cls := findClass_of_methodNamed B.named
    have hts0 : ∀ c ∈ (Jvm.Cond.code x code maxLocals ret :: tables_1), c.before #[Value.ref b] s = true := atoms_spec (ws := Jvm.Cond.code x code maxLocals ret :: tables_1) B.pre
    have hts : ∀ w ∈ lw_tbl, w.before #[Value.ref b] s = true := k2_hts_sels lw_privs (fun w hw => hts0 w (List.mem_cons_of_mem _ hw)) lw_privs_ok
    have hml : c.maxLocals = 4 := B.maxLocals_eq (hts0 _ List.mem_cons_self)
    have X₀ : Stand p l e room_1 s m #[Value.ref b] below meth c s₁ [] 0 0 := Stand.of_body B
    have hh0 : s₁.heap = s.heap := by rw [B.state]; rfl
    have hsz : scr.slots.size = xs.length := by rw [← Array.length_toList, hlist, List.length_map]
    have hval : ∀ j : Nat, j < xs.length → scr.slots[j]? = some (.int (xs.getD j 0)) := fun j hj => by
      rw [← Array.getElem?_toList, hlist]
      simp [hj]
    have hbl : b < s.heap.size := (Array.getElem?_eq_some_iff.mp hcb).1
    have hX : va_X b xs.length (fun j => xs.getD j 0) s s.heap := ⟨scr, hcb, hof, hkn, hsz, hval⟩
    have K : W p l e room_1 s m #[Value.ref b] below meth c s₁.heap [] 0 0 (lw_Z below #[Value.ref b] s) (entryFrame m ([Value.ref b] : List Value).toArray 4) := by
      rw [hh0]
      exact whole_start l hflags hbd ⟨B.exec, B.bytes, B.returns, hml, hown, hts, hX, hbl, B.notSynchronized, hgv⟩
    obtain ⟨t, a1, o, b1, b2, b3⟩ := K s₁ rfl X₀
    exact ⟨t, o, a1, b1, b2, b3⟩
theorem lw_pre_spec {args : Array Value} {s : State} (h : (Jvm.Cond.and given_1 narrow_1).before args s = true) (hr : rest_1_c.before args s = true) : ∃ (b : Addr) (xs : List Int32), lw_P b xs args s := by
  have hs := flat_of_before _ h
  have hq := flat_of_before _ hr
  have hc : (Cond.count 1).before args s = true := hs _ (by decide +kernel)
  have harr : (Cond.arrayOf (.arg 0) .int).before args s = true := hs _ (by decide +kernel)
  have hle : (Cond.le (.length (.arg 0)) (.int 448)).before args s = true := hs _ (by decide +kernel)
  have hlen : (Cond.isInt (.length (.arg 0))).before args s = true := hq _ (by decide +kernel)
  have hall : (Cond.all (.arg 0) (.isInt (.elem (.arg 0) (.index 0)))).before args s = true := hq _ (by decide +kernel)
  obtain ⟨b, xs, hb, hx⟩ := State.ints_of_pre rfl harr hlen hall
  have hsm : xs.length < 2 ^ 31 := hx.choose_spec.2.2.2
  have hev : (Term.length (.arg 0)).eval args s none [] s = some (.int xs.length.toInt32) := hx.length_eval hb
  have hv := Cond.le_ints hev (show (Term.int 448).eval args s none [] s = some (.int 448) from rfl)
  have hd : xs.length.toInt32 ≤ 448 := by
    simpa [Cond.before, Cond.holds, hv] using hle
  have hN : xs.length ≤ 448 := (Int32.ofNat_le_ofNat hsm (by decide)).mp (show Int32.ofNat xs.length ≤ Int32.ofNat 448 from hd)
  exact ⟨b, xs, Cond.one_arg hc (show args[0]? = some (.ref b) from hb), hx, hN, h⟩
theorem lw_comes (l : Launch) (hflags : l.flags = flags0) : Comes l x (Jvm.Cond.code x code maxLocals ret :: tables_1) room_1 (fun tb e args s => Calls_1 tb e args s ∧ rest_1 tb e args s ∧ Pre_1 tb e args s)
    (fun _ _ args s o t => lw_Q args s o t) := by
  intro p e ha hc hk s m args below hf hfit hheap happ hpre
  obtain ⟨b, xs, hP⟩ := lw_pre_spec hpre.2.2 hpre.2.1
  obtain ⟨k, o, h1, h2, h3, hQ⟩ := lw_walk l hflags b xs p e ha hc hk s m args below hf ((Spec.applies_iff_loose hf).mp happ).1 hP trivial
  exact ⟨k, o, h1, h2, h3, hQ⟩
theorem lw_frame {s t : State} {o : Outcome} {args : Array Value} (h : Framed s o t [] 51 872) :
    Framed s o t (fieldLocs frame_1_writes args s ++ arrayLocs frame_1_arrays args s ++ staticLocs frame_1_statics s) 51 872 := h
theorem lw_limb (L : Cond) (hL : ∀ (args : Array Value) (s t : State), L.after args s (.returned (some (.int 1))) t = true) :
    ArmFor flags0 classFile x code maxLocals ret World_1 tables_1 room_1 Calls_1 rest_1 Pre_1
      (fun tb e a s o t => postC L tb e a s o t ∧ Framed s o t (fieldLocs frame_1_writes a s ++ arrayLocs frame_1_arrays a s ++ staticLocs frame_1_statics s) 51 872) := by
  intro l hflags _ _ p e ha hc hk s m args below hf hfit hheap happ hpre
  obtain ⟨k, o, h1, h2, h3, rfl, hF⟩ := lw_comes l hflags p e ha hc hk s m args below hf hfit hheap happ hpre
  exact ⟨k, _, h1, h2, h3, hL args s _, lw_frame hF⟩
theorem i_vc : Claimed_1_1 ∧ Claimed_1_2 := ⟨lw_limb limb_1_1 (fun args s t => by simp [limb_1_1, Cond.after, Cond.holds, Cond.value]), lw_limb limb_1_2 (fun args s t => Cond.after_iff.mpr (by
  first | (rw [show limb_1_2 = Cond.eq .result (.int 1) from rfl, Cond.eq_ints (x := 1) (y := 1) rfl rfl]; simp; done) | (simp [limb_1_2, Cond.value, Term.eval]; done)))⟩
end
