-- contracts of Chances: mixed, isTheFirst, winsRace
section C46
variable {xs : List Int} {h : MH}
theorem mul_bd {x y m n : Int} (x0 : 0 ≤ x) (x1 : x ≤ m) (y0 : 0 ≤ y) (y1 : y ≤ n) : 0 ≤ x * y ∧ x * y ≤ m * n :=
  ⟨Int.mul_nonneg x0 y0, Int.mul_le_mul x1 y1 y0 (by omega)⟩
theorem mul_bd2 {x y m n : Int} (x0 : 0 ≤ x) (x1 : x ≤ m) (y0 : -n ≤ y) (y1 : y ≤ n) : -(m * n) ≤ x * y ∧ x * y ≤ m * n := by
  by_cases z : 0 ≤ y
  · have := mul_bd x0 x1 z y1
    omega
  · have := mul_bd x0 x1 (y := -y) (by omega) (by omega : -y ≤ n)
    rw [Int.mul_neg] at this
    omega
def nbt (a b c d : Int) : Prop := 0 < d - c ∧ d - c < a - b - c + d ∧ max (min a b) (min c d) * (a - b - c + d) < a * d - b * c
def nbB (a b c d : Int) : Bool := decide (0 < d - c) && decide (d - c < a - b - c + d) && decide (max (min a b) (min c d) * (a - b - c + d) < a * d - b * c)
theorem nbB_iff {a b c d : Int} : nbB a b c d = true ↔ nbt a b c d := by
  unfold nbB nbt
  rw [Bool.and_eq_true, Bool.and_eq_true, decide_eq_true_eq, decide_eq_true_eq, decide_eq_true_eq, and_assoc]
def mxo (a b c d what part : Int) : Int :=
  if what = 0 then (if nbB a b c d = true then prt (a * d - b * c) (10 * (a - b - c + d)) part else prt (max (min a b) (min c d)) 10 part)
  else (if nbB a b c d = true then prt (d - c) (a - b - c + d) part else prt (if min c d ≤ min a b then 1 else 0) 1 part)
theorem sp_mixedInOrder {a b c d what p : Int} (a0 : 0 ≤ a ∧ a ≤ 10) (b0 : 0 ≤ b ∧ b ≤ 10) (c0 : 0 ≤ c ∧ c ≤ 10) (d0 : 0 ≤ d ∧ d ≤ 10) (w0 : what = 0 ∨ what = 1) (p0 : p = 0 ∨ p = 1) : Sp xs m_Chances_mixedInOrder [vI a, vI b, vI c, vI d, vI what, vI p] h (some (vL (mxo a b c d what p))) h := by
  have m1 := mul_bd a0.1 a0.2 d0.1 d0.2
  have m2 := mul_bd b0.1 b0.2 c0.1 c0.2
  have m3 := mul_bd2 (x := max (min a b) (min c d)) (y := a - b - c + d) (m := 10) (n := 20) (by omega) (by omega) (by omega) (by omega)
  have m4 := fun (z : 0 ≤ a - b - c + d) => mul_bd (x := max (min a b) (min c d)) (y := a - b - c + d) (m := 10) (n := 20) (by omega) (by omega) z (by omega)
  unfold mxo
  by_cases z : nbB a b c d = true
  · skip
    have y := nbB_iff.mp z
    obtain ⟨y1, y2, y3⟩ := y
    have y4 := m4 (by omega)
    rw [if_pos z, if_pos z]
    refine en_Chances_mixedInOrder ?_
    refine r_iload_n cd_Chances_mixedInOrder_0 rfl ?_
    refine r_iload_n cd_Chances_mixedInOrder_1 rfl ?_
    refine r_cv2 cd_Chances_mixedInOrder_2 rfl ck_Chances_mixedInOrder_Math_min rfl (Nat.le_of_ble_eq_true rfl) (sp_Math_min ⟨by omega, by omega⟩ ⟨by omega, by omega⟩) ?_
    refine r_istore13_6 cd_Chances_mixedInOrder_5 rfl ?_
    refine r_iload_n cd_Chances_mixedInOrder_7 rfl ?_
    refine r_iload_n cd_Chances_mixedInOrder_8 rfl ?_
    refine r_cv2 cd_Chances_mixedInOrder_9 rfl ck_Chances_mixedInOrder_Math_min rfl (Nat.le_of_ble_eq_true rfl) (sp_Math_min ⟨by omega, by omega⟩ ⟨by omega, by omega⟩) ?_
    refine r_istore13_7 cd_Chances_mixedInOrder_12 rfl ?_
    refine r_iload cd_Chances_mixedInOrder_14 rfl ?_
    refine r_iload cd_Chances_mixedInOrder_16 rfl ?_
    refine r_cv2 cd_Chances_mixedInOrder_18 rfl ck_Chances_mixedInOrder_Math_max rfl (Nat.le_of_ble_eq_true rfl) (sp_Math_max ⟨by omega, by omega⟩ ⟨by omega, by omega⟩) ?_
    refine r_istore13_8 cd_Chances_mixedInOrder_21 rfl ?_
    refine r_iload_n cd_Chances_mixedInOrder_23 rfl ?_
    refine r_iload_n cd_Chances_mixedInOrder_24 rfl ?_
    refine r_isub cd_Chances_mixedInOrder_25 ?_
    refine r_iload_n cd_Chances_mixedInOrder_26 rfl ?_
    refine r_isub cd_Chances_mixedInOrder_27 ?_
    refine r_iload_n cd_Chances_mixedInOrder_28 rfl ?_
    refine r_iadd cd_Chances_mixedInOrder_29 ?_
    refine r_istore13_9 cd_Chances_mixedInOrder_30 rfl ?_
    refine r_iload_n cd_Chances_mixedInOrder_32 rfl ?_
    refine r_iload_n cd_Chances_mixedInOrder_33 rfl ?_
    refine r_imul cd_Chances_mixedInOrder_34 ?_
    refine r_iload_n cd_Chances_mixedInOrder_35 rfl ?_
    refine r_iload_n cd_Chances_mixedInOrder_36 rfl ?_
    refine r_imul cd_Chances_mixedInOrder_37 ?_
    refine r_isub cd_Chances_mixedInOrder_38 ?_
    refine r_istore13_10 cd_Chances_mixedInOrder_39 rfl ?_
    refine r_iload_n cd_Chances_mixedInOrder_41 rfl ?_
    refine r_iload_n cd_Chances_mixedInOrder_42 rfl ?_
    refine r_isub cd_Chances_mixedInOrder_43 ?_
    refine r_istore13_11 cd_Chances_mixedInOrder_44 rfl ?_
    refine r_iload cd_Chances_mixedInOrder_46 rfl ?_
    refine r_if_le cd_Chances_mixedInOrder_48 ⟨by omega, by omega⟩ (fun c_48 => ?_) (fun c_48 => ?_)
    · skip
      omega
    · skip
      refine r_iload cd_Chances_mixedInOrder_51 rfl ?_
      refine r_iload cd_Chances_mixedInOrder_53 rfl ?_
      refine r_icmp_ge cd_Chances_mixedInOrder_55 ⟨by omega, by omega⟩ ⟨by omega, by omega⟩ (fun c_55 => ?_) (fun c_55 => ?_)
      · skip
        omega
      · skip
        refine r_iload cd_Chances_mixedInOrder_58 rfl ?_
        refine r_iload cd_Chances_mixedInOrder_60 rfl ?_
        refine r_iload cd_Chances_mixedInOrder_62 rfl ?_
        refine r_imul cd_Chances_mixedInOrder_64 ?_
        refine r_icmp_le cd_Chances_mixedInOrder_65 ⟨by omega, by omega⟩ ⟨by omega, by omega⟩ (fun c_65 => ?_) (fun c_65 => ?_)
        · skip
          omega
        · skip
          refine r_iconst cd_Chances_mixedInOrder_68 ?_
          refine r_goto cd_Chances_mixedInOrder_69 ?_
          refine r_istore13_12 cd_Chances_mixedInOrder_73 rfl ?_
          refine r_iload cd_Chances_mixedInOrder_75 rfl ?_
          refine r_if_ne cd_Chances_mixedInOrder_77 ⟨by omega, by omega⟩ (fun c_77 => ?_) (fun c_77 => ?_)
          · skip
            refine r_iload cd_Chances_mixedInOrder_114 rfl ?_
            refine r_if_eq cd_Chances_mixedInOrder_116 ⟨by decide, by decide⟩ (fun c_116 => absurd c_116 (by decide)) (fun _ => ?_)
            refine r_iload cd_Chances_mixedInOrder_119 rfl ?_
            refine r_i2l cd_Chances_mixedInOrder_121 ⟨by omega, by omega⟩ ?_
            refine r_iload cd_Chances_mixedInOrder_122 rfl ?_
            refine r_i2l cd_Chances_mixedInOrder_124 ⟨by omega, by omega⟩ ?_
            refine r_iload cd_Chances_mixedInOrder_125 rfl ?_
            refine r_cv3 cd_Chances_mixedInOrder_127 rfl ck_Chances_mixedInOrder_Chances_part rfl (Nat.le_of_ble_eq_true rfl) (sp_part (by omega) (by omega) (by omega) (by omega) p0) ?_
            exact r_lret cd_Chances_mixedInOrder_130 rt_Chances_mixedInOrder (by first | (rw [if_pos c_77]; done) | (rw [if_neg c_77]; done)) (by rfl)
          · skip
            refine r_iload cd_Chances_mixedInOrder_80 rfl ?_
            refine r_if_eq cd_Chances_mixedInOrder_82 ⟨by decide, by decide⟩ (fun c_82 => absurd c_82 (by decide)) (fun _ => ?_)
            refine r_iload cd_Chances_mixedInOrder_85 rfl ?_
            refine r_i2l cd_Chances_mixedInOrder_87 ⟨by omega, by omega⟩ ?_
            refine r_bipush cd_Chances_mixedInOrder_88 ?_
            refine r_iload cd_Chances_mixedInOrder_90 rfl ?_
            refine r_imul cd_Chances_mixedInOrder_92 ?_
            refine r_i2l cd_Chances_mixedInOrder_93 ⟨by omega, by omega⟩ ?_
            refine r_iload cd_Chances_mixedInOrder_94 rfl ?_
            refine r_cv3 cd_Chances_mixedInOrder_96 rfl ck_Chances_mixedInOrder_Chances_part rfl (Nat.le_of_ble_eq_true rfl) (sp_part (by omega) (by omega) (by omega) (by omega) p0) ?_
            refine r_goto cd_Chances_mixedInOrder_99 ?_
            exact r_lret cd_Chances_mixedInOrder_113 rt_Chances_mixedInOrder (by first | (rw [if_pos c_77]; done) | (rw [if_neg c_77]; done)) (by rfl)
  · skip
    have y : ¬ nbt a b c d := fun q => z (nbB_iff.mpr q)
    rw [if_neg z, if_neg z]
    refine en_Chances_mixedInOrder ?_
    refine r_iload_n cd_Chances_mixedInOrder_0 rfl ?_
    refine r_iload_n cd_Chances_mixedInOrder_1 rfl ?_
    refine r_cv2 cd_Chances_mixedInOrder_2 rfl ck_Chances_mixedInOrder_Math_min rfl (Nat.le_of_ble_eq_true rfl) (sp_Math_min ⟨by omega, by omega⟩ ⟨by omega, by omega⟩) ?_
    refine r_istore13_6 cd_Chances_mixedInOrder_5 rfl ?_
    refine r_iload_n cd_Chances_mixedInOrder_7 rfl ?_
    refine r_iload_n cd_Chances_mixedInOrder_8 rfl ?_
    refine r_cv2 cd_Chances_mixedInOrder_9 rfl ck_Chances_mixedInOrder_Math_min rfl (Nat.le_of_ble_eq_true rfl) (sp_Math_min ⟨by omega, by omega⟩ ⟨by omega, by omega⟩) ?_
    refine r_istore13_7 cd_Chances_mixedInOrder_12 rfl ?_
    refine r_iload cd_Chances_mixedInOrder_14 rfl ?_
    refine r_iload cd_Chances_mixedInOrder_16 rfl ?_
    refine r_cv2 cd_Chances_mixedInOrder_18 rfl ck_Chances_mixedInOrder_Math_max rfl (Nat.le_of_ble_eq_true rfl) (sp_Math_max ⟨by omega, by omega⟩ ⟨by omega, by omega⟩) ?_
    refine r_istore13_8 cd_Chances_mixedInOrder_21 rfl ?_
    refine r_iload_n cd_Chances_mixedInOrder_23 rfl ?_
    refine r_iload_n cd_Chances_mixedInOrder_24 rfl ?_
    refine r_isub cd_Chances_mixedInOrder_25 ?_
    refine r_iload_n cd_Chances_mixedInOrder_26 rfl ?_
    refine r_isub cd_Chances_mixedInOrder_27 ?_
    refine r_iload_n cd_Chances_mixedInOrder_28 rfl ?_
    refine r_iadd cd_Chances_mixedInOrder_29 ?_
    refine r_istore13_9 cd_Chances_mixedInOrder_30 rfl ?_
    refine r_iload_n cd_Chances_mixedInOrder_32 rfl ?_
    refine r_iload_n cd_Chances_mixedInOrder_33 rfl ?_
    refine r_imul cd_Chances_mixedInOrder_34 ?_
    refine r_iload_n cd_Chances_mixedInOrder_35 rfl ?_
    refine r_iload_n cd_Chances_mixedInOrder_36 rfl ?_
    refine r_imul cd_Chances_mixedInOrder_37 ?_
    refine r_isub cd_Chances_mixedInOrder_38 ?_
    refine r_istore13_10 cd_Chances_mixedInOrder_39 rfl ?_
    refine r_iload_n cd_Chances_mixedInOrder_41 rfl ?_
    refine r_iload_n cd_Chances_mixedInOrder_42 rfl ?_
    refine r_isub cd_Chances_mixedInOrder_43 ?_
    refine r_istore13_11 cd_Chances_mixedInOrder_44 rfl ?_
    refine r_iload cd_Chances_mixedInOrder_46 rfl ?_
    refine r_if_le cd_Chances_mixedInOrder_48 ⟨by omega, by omega⟩ (fun c_48 => ?_) (fun c_48 => ?_)
    · skip
      refine r_iconst cd_Chances_mixedInOrder_72 ?_
      refine r_istore13_12 cd_Chances_mixedInOrder_73 rfl ?_
      refine r_iload cd_Chances_mixedInOrder_75 rfl ?_
      refine r_if_ne cd_Chances_mixedInOrder_77 ⟨by omega, by omega⟩ (fun c_77 => ?_) (fun c_77 => ?_)
      · skip
        refine r_iload cd_Chances_mixedInOrder_114 rfl ?_
        refine r_if_eq cd_Chances_mixedInOrder_116 ⟨by decide, by decide⟩ (fun _ => ?_) (fun c_116 => absurd c_116 (by decide))
        refine r_iload cd_Chances_mixedInOrder_131 rfl ?_
        refine r_iload cd_Chances_mixedInOrder_133 rfl ?_
        refine r_icmp_lt cd_Chances_mixedInOrder_135 ⟨by omega, by omega⟩ ⟨by omega, by omega⟩ (fun c_135 => ?_) (fun c_135 => ?_)
        · skip
          refine r_lconst0 cd_Chances_mixedInOrder_142 ?_
          refine r_lconst1 cd_Chances_mixedInOrder_143 ?_
          refine r_iload cd_Chances_mixedInOrder_144 rfl ?_
          refine r_cv3 cd_Chances_mixedInOrder_146 rfl ck_Chances_mixedInOrder_Chances_part rfl (Nat.le_of_ble_eq_true rfl) (sp_part (by omega) (by omega) (by omega) (by omega) p0) ?_
          exact r_lret cd_Chances_mixedInOrder_149 rt_Chances_mixedInOrder (by first | (rw [if_pos c_77]; done) | (rw [if_neg c_77, if_pos c_135]; done) | (rw [if_neg c_77, if_neg (by omega)]; done)) (by rfl)
        · skip
          refine r_lconst1 cd_Chances_mixedInOrder_138 ?_
          refine r_goto cd_Chances_mixedInOrder_139 ?_
          refine r_lconst1 cd_Chances_mixedInOrder_143 ?_
          refine r_iload cd_Chances_mixedInOrder_144 rfl ?_
          refine r_cv3 cd_Chances_mixedInOrder_146 rfl ck_Chances_mixedInOrder_Chances_part rfl (Nat.le_of_ble_eq_true rfl) (sp_part (by omega) (by omega) (by omega) (by omega) p0) ?_
          exact r_lret cd_Chances_mixedInOrder_149 rt_Chances_mixedInOrder (by first | (rw [if_pos c_77]; done) | (rw [if_neg c_77, if_pos c_135]; done) | (rw [if_neg c_77, if_neg (by omega)]; done)) (by rfl)
      · skip
        refine r_iload cd_Chances_mixedInOrder_80 rfl ?_
        refine r_if_eq cd_Chances_mixedInOrder_82 ⟨by decide, by decide⟩ (fun _ => ?_) (fun c_82 => absurd c_82 (by decide))
        refine r_iload cd_Chances_mixedInOrder_102 rfl ?_
        refine r_i2l cd_Chances_mixedInOrder_104 ⟨by omega, by omega⟩ ?_
        refine r_ldc2_w cd_Chances_mixedInOrder_105 ?_
        refine r_iload cd_Chances_mixedInOrder_108 rfl ?_
        refine r_cv3 cd_Chances_mixedInOrder_110 rfl ck_Chances_mixedInOrder_Chances_part rfl (Nat.le_of_ble_eq_true rfl) (sp_part (by omega) (by omega) (by omega) (by omega) p0) ?_
        exact r_lret cd_Chances_mixedInOrder_113 rt_Chances_mixedInOrder (by first | (rw [if_pos c_77]; done) | (rw [if_neg c_77, if_pos c_135]; done) | (rw [if_neg c_77, if_neg (by omega)]; done)) (by rfl)
    · skip
      refine r_iload cd_Chances_mixedInOrder_51 rfl ?_
      refine r_iload cd_Chances_mixedInOrder_53 rfl ?_
      refine r_icmp_ge cd_Chances_mixedInOrder_55 ⟨by omega, by omega⟩ ⟨by omega, by omega⟩ (fun c_55 => ?_) (fun c_55 => ?_)
      · skip
        refine r_iconst cd_Chances_mixedInOrder_72 ?_
        refine r_istore13_12 cd_Chances_mixedInOrder_73 rfl ?_
        refine r_iload cd_Chances_mixedInOrder_75 rfl ?_
        refine r_if_ne cd_Chances_mixedInOrder_77 ⟨by omega, by omega⟩ (fun c_77 => ?_) (fun c_77 => ?_)
        · skip
          refine r_iload cd_Chances_mixedInOrder_114 rfl ?_
          refine r_if_eq cd_Chances_mixedInOrder_116 ⟨by decide, by decide⟩ (fun _ => ?_) (fun c_116 => absurd c_116 (by decide))
          refine r_iload cd_Chances_mixedInOrder_131 rfl ?_
          refine r_iload cd_Chances_mixedInOrder_133 rfl ?_
          refine r_icmp_lt cd_Chances_mixedInOrder_135 ⟨by omega, by omega⟩ ⟨by omega, by omega⟩ (fun c_135 => ?_) (fun c_135 => ?_)
          · skip
            refine r_lconst0 cd_Chances_mixedInOrder_142 ?_
            refine r_lconst1 cd_Chances_mixedInOrder_143 ?_
            refine r_iload cd_Chances_mixedInOrder_144 rfl ?_
            refine r_cv3 cd_Chances_mixedInOrder_146 rfl ck_Chances_mixedInOrder_Chances_part rfl (Nat.le_of_ble_eq_true rfl) (sp_part (by omega) (by omega) (by omega) (by omega) p0) ?_
            exact r_lret cd_Chances_mixedInOrder_149 rt_Chances_mixedInOrder (by first | (rw [if_pos c_77]; done) | (rw [if_neg c_77, if_pos c_135]; done) | (rw [if_neg c_77, if_neg (by omega)]; done)) (by rfl)
          · skip
            refine r_lconst1 cd_Chances_mixedInOrder_138 ?_
            refine r_goto cd_Chances_mixedInOrder_139 ?_
            refine r_lconst1 cd_Chances_mixedInOrder_143 ?_
            refine r_iload cd_Chances_mixedInOrder_144 rfl ?_
            refine r_cv3 cd_Chances_mixedInOrder_146 rfl ck_Chances_mixedInOrder_Chances_part rfl (Nat.le_of_ble_eq_true rfl) (sp_part (by omega) (by omega) (by omega) (by omega) p0) ?_
            exact r_lret cd_Chances_mixedInOrder_149 rt_Chances_mixedInOrder (by first | (rw [if_pos c_77]; done) | (rw [if_neg c_77, if_pos c_135]; done) | (rw [if_neg c_77, if_neg (by omega)]; done)) (by rfl)
        · skip
          refine r_iload cd_Chances_mixedInOrder_80 rfl ?_
          refine r_if_eq cd_Chances_mixedInOrder_82 ⟨by decide, by decide⟩ (fun _ => ?_) (fun c_82 => absurd c_82 (by decide))
          refine r_iload cd_Chances_mixedInOrder_102 rfl ?_
          refine r_i2l cd_Chances_mixedInOrder_104 ⟨by omega, by omega⟩ ?_
          refine r_ldc2_w cd_Chances_mixedInOrder_105 ?_
          refine r_iload cd_Chances_mixedInOrder_108 rfl ?_
          refine r_cv3 cd_Chances_mixedInOrder_110 rfl ck_Chances_mixedInOrder_Chances_part rfl (Nat.le_of_ble_eq_true rfl) (sp_part (by omega) (by omega) (by omega) (by omega) p0) ?_
          exact r_lret cd_Chances_mixedInOrder_113 rt_Chances_mixedInOrder (by first | (rw [if_pos c_77]; done) | (rw [if_neg c_77, if_pos c_135]; done) | (rw [if_neg c_77, if_neg (by omega)]; done)) (by rfl)
      · skip
        refine r_iload cd_Chances_mixedInOrder_58 rfl ?_
        refine r_iload cd_Chances_mixedInOrder_60 rfl ?_
        refine r_iload cd_Chances_mixedInOrder_62 rfl ?_
        refine r_imul cd_Chances_mixedInOrder_64 ?_
        refine r_icmp_le cd_Chances_mixedInOrder_65 ⟨by omega, by omega⟩ ⟨by omega, by omega⟩ (fun c_65 => ?_) (fun c_65 => ?_)
        · skip
          refine r_iconst cd_Chances_mixedInOrder_72 ?_
          refine r_istore13_12 cd_Chances_mixedInOrder_73 rfl ?_
          refine r_iload cd_Chances_mixedInOrder_75 rfl ?_
          refine r_if_ne cd_Chances_mixedInOrder_77 ⟨by omega, by omega⟩ (fun c_77 => ?_) (fun c_77 => ?_)
          · skip
            refine r_iload cd_Chances_mixedInOrder_114 rfl ?_
            refine r_if_eq cd_Chances_mixedInOrder_116 ⟨by decide, by decide⟩ (fun _ => ?_) (fun c_116 => absurd c_116 (by decide))
            refine r_iload cd_Chances_mixedInOrder_131 rfl ?_
            refine r_iload cd_Chances_mixedInOrder_133 rfl ?_
            refine r_icmp_lt cd_Chances_mixedInOrder_135 ⟨by omega, by omega⟩ ⟨by omega, by omega⟩ (fun c_135 => ?_) (fun c_135 => ?_)
            · skip
              refine r_lconst0 cd_Chances_mixedInOrder_142 ?_
              refine r_lconst1 cd_Chances_mixedInOrder_143 ?_
              refine r_iload cd_Chances_mixedInOrder_144 rfl ?_
              refine r_cv3 cd_Chances_mixedInOrder_146 rfl ck_Chances_mixedInOrder_Chances_part rfl (Nat.le_of_ble_eq_true rfl) (sp_part (by omega) (by omega) (by omega) (by omega) p0) ?_
              exact r_lret cd_Chances_mixedInOrder_149 rt_Chances_mixedInOrder (by first | (rw [if_pos c_77]; done) | (rw [if_neg c_77, if_pos c_135]; done) | (rw [if_neg c_77, if_neg (by omega)]; done)) (by rfl)
            · skip
              refine r_lconst1 cd_Chances_mixedInOrder_138 ?_
              refine r_goto cd_Chances_mixedInOrder_139 ?_
              refine r_lconst1 cd_Chances_mixedInOrder_143 ?_
              refine r_iload cd_Chances_mixedInOrder_144 rfl ?_
              refine r_cv3 cd_Chances_mixedInOrder_146 rfl ck_Chances_mixedInOrder_Chances_part rfl (Nat.le_of_ble_eq_true rfl) (sp_part (by omega) (by omega) (by omega) (by omega) p0) ?_
              exact r_lret cd_Chances_mixedInOrder_149 rt_Chances_mixedInOrder (by first | (rw [if_pos c_77]; done) | (rw [if_neg c_77, if_pos c_135]; done) | (rw [if_neg c_77, if_neg (by omega)]; done)) (by rfl)
          · skip
            refine r_iload cd_Chances_mixedInOrder_80 rfl ?_
            refine r_if_eq cd_Chances_mixedInOrder_82 ⟨by decide, by decide⟩ (fun _ => ?_) (fun c_82 => absurd c_82 (by decide))
            refine r_iload cd_Chances_mixedInOrder_102 rfl ?_
            refine r_i2l cd_Chances_mixedInOrder_104 ⟨by omega, by omega⟩ ?_
            refine r_ldc2_w cd_Chances_mixedInOrder_105 ?_
            refine r_iload cd_Chances_mixedInOrder_108 rfl ?_
            refine r_cv3 cd_Chances_mixedInOrder_110 rfl ck_Chances_mixedInOrder_Chances_part rfl (Nat.le_of_ble_eq_true rfl) (sp_part (by omega) (by omega) (by omega) (by omega) p0) ?_
            exact r_lret cd_Chances_mixedInOrder_113 rt_Chances_mixedInOrder (by first | (rw [if_pos c_77]; done) | (rw [if_neg c_77, if_pos c_135]; done) | (rw [if_neg c_77, if_neg (by omega)]; done)) (by rfl)
        · skip
          exact absurd ⟨by omega, by omega, by omega⟩ y
def mxd (a b c d what part : Int) : Int := if a - b - c + d < 0 then mxo b a d c what part else mxo a b c d what part
theorem sp_mixed {a b c d what p : Int} (a0 : 0 ≤ a ∧ a ≤ 10) (b0 : 0 ≤ b ∧ b ≤ 10) (c0 : 0 ≤ c ∧ c ≤ 10) (d0 : 0 ≤ d ∧ d ≤ 10) (w0 : what = 0 ∨ what = 1) (p0 : p = 0 ∨ p = 1) : Sp xs m_Chances_mixed [vI a, vI b, vI c, vI d, vI what, vI p] h (some (vL (mxd a b c d what p))) h := by
  refine en_Chances_mixed ?_
  refine r_iload_n cd_Chances_mixed_0 rfl ?_
  refine r_iload_n cd_Chances_mixed_1 rfl ?_
  refine r_isub cd_Chances_mixed_2 ?_
  refine r_iload_n cd_Chances_mixed_3 rfl ?_
  refine r_isub cd_Chances_mixed_4 ?_
  refine r_iload_n cd_Chances_mixed_5 rfl ?_
  refine r_iadd cd_Chances_mixed_6 ?_
  refine r_if_ge cd_Chances_mixed_7 ⟨by omega, by omega⟩ (fun c_7 => ?_) (fun c_7 => ?_)
  · skip
    refine r_iconst cd_Chances_mixed_14 ?_
    refine r_istore7_6 cd_Chances_mixed_15 rfl ?_
    refine r_iload cd_Chances_mixed_17 rfl ?_
    refine r_if_eq cd_Chances_mixed_19 ⟨by decide, by decide⟩ (fun _ => ?_) (fun c_19 => absurd c_19 (by decide))
    refine r_iload_n cd_Chances_mixed_36 rfl ?_
    refine r_iload_n cd_Chances_mixed_37 rfl ?_
    refine r_iload_n cd_Chances_mixed_38 rfl ?_
    refine r_iload_n cd_Chances_mixed_39 rfl ?_
    refine r_iload cd_Chances_mixed_40 rfl ?_
    refine r_iload cd_Chances_mixed_42 rfl ?_
    refine r_cv6 cd_Chances_mixed_44 rfl ck_Chances_mixed_Chances_mixedInOrder rfl (Nat.le_of_ble_eq_true rfl) (sp_mixedInOrder a0 b0 c0 d0 w0 p0) ?_
    exact r_lret cd_Chances_mixed_47 rt_Chances_mixed (by unfold mxd; first | (rw [if_pos c_7]; done) | (rw [if_neg (by omega)]; done)) (by rfl)
  · skip
    refine r_iconst cd_Chances_mixed_10 ?_
    refine r_goto cd_Chances_mixed_11 ?_
    refine r_istore7_6 cd_Chances_mixed_15 rfl ?_
    refine r_iload cd_Chances_mixed_17 rfl ?_
    refine r_if_eq cd_Chances_mixed_19 ⟨by decide, by decide⟩ (fun c_19 => absurd c_19 (by decide)) (fun _ => ?_)
    refine r_iload_n cd_Chances_mixed_22 rfl ?_
    refine r_iload_n cd_Chances_mixed_23 rfl ?_
    refine r_iload_n cd_Chances_mixed_24 rfl ?_
    refine r_iload_n cd_Chances_mixed_25 rfl ?_
    refine r_iload cd_Chances_mixed_26 rfl ?_
    refine r_iload cd_Chances_mixed_28 rfl ?_
    refine r_cv6 cd_Chances_mixed_30 rfl ck_Chances_mixed_Chances_mixedInOrder rfl (Nat.le_of_ble_eq_true rfl) (sp_mixedInOrder b0 a0 d0 c0 w0 p0) ?_
    refine r_goto cd_Chances_mixed_33 ?_
    exact r_lret cd_Chances_mixed_47 rt_Chances_mixed (by unfold mxd; first | (rw [if_pos c_7]; done) | (rw [if_neg (by omega)]; done)) (by rfl)
end C46
