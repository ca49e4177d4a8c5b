-- truly, of the class and of the reference
section C55
variable {xs : List Int} {h : MH}
theorem sp_isTenths {v : Int} (hv : inR v) : Sp xs m_F_isTenths [vI v] h (some (vI (bp (0 ≤ v ∧ v ≤ 10)))) h := by
  refine en_F_isTenths ?_
  refine r_iload_n cd_F_isTenths_0 rfl ?_
  refine r_iconst cd_F_isTenths_1 ?_
  refine r_bipush cd_F_isTenths_2 ?_
  refine r_cv3 cd_F_isTenths_4 rfl ck_F_isTenths_F_isWithin rfl (Nat.le_of_ble_eq_true rfl) (sp_isWithin hv ⟨by decide, by decide⟩ ⟨by decide, by decide⟩) ?_
  exact r_zret cd_F_isTenths_7 rt_F_isTenths (by first | rfl | omega | (split <;> first | rfl | omega)) (by rfl)
def trR (a b n k p : Int) : Int := if ((0 ≤ a ∧ a ≤ 10) ∧ (0 ≤ b ∧ b ≤ 10) ∧ (0 ≤ n ∧ n ≤ 16) ∧ (0 ≤ k ∧ k ≤ n) ∧ (p = 0 ∨ p = 1)) then tru a b n k p else -1000000000000000002
theorem sp_F_truly {q : Nat} {a b n k p : Int} (ha : inR a) (hb : inR b) (hn : inR n) (hk : inR k) (hp : inR p) : Sp xs m_F_truly [vR q, vI a, vI b, vI n, vI k, vI p] h (some (vL (trR a b n k p))) h := by
  unfold trR
  refine en_F_truly ?_
  refine r_iload_n cd_F_truly_0 rfl ?_
  refine r_cv1 cd_F_truly_1 rfl ck_F_truly_F_isTenths rfl (Nat.le_of_ble_eq_true rfl) (sp_isTenths ha) ?_
  refine r_ifeq_p cd_F_truly_4 (fun c_4 => ?_) (fun c_4 => ?_)
  · skip
    refine r_ldc2_w cd_F_truly_22 ?_
    exact r_lret cd_F_truly_25 rt_F_truly (by (rw [if_neg (fun z => by obtain ⟨z1, z2, z3, z4, z5⟩ := z; first | exact c_4 z1 | exact c_11 z2 | exact c_19 z5)])) (by rfl)
  · skip
    refine r_iload_n cd_F_truly_7 rfl ?_
    refine r_cv1 cd_F_truly_8 rfl ck_F_truly_F_isTenths rfl (Nat.le_of_ble_eq_true rfl) (sp_isTenths hb) ?_
    refine r_ifeq_p cd_F_truly_11 (fun c_11 => ?_) (fun c_11 => ?_)
    · skip
      refine r_ldc2_w cd_F_truly_22 ?_
      exact r_lret cd_F_truly_25 rt_F_truly (by (rw [if_neg (fun z => by obtain ⟨z1, z2, z3, z4, z5⟩ := z; first | exact c_4 z1 | exact c_11 z2 | exact c_19 z5)])) (by rfl)
    · skip
      refine r_iload cd_F_truly_14 rfl ?_
      refine r_cv1 cd_F_truly_16 rfl ck_F_truly_F_isBit rfl (Nat.le_of_ble_eq_true rfl) (sp_isBit hp) ?_
      refine r_ifne_p cd_F_truly_19 (fun c_19 => ?_) (fun c_19 => ?_)
      · skip
        refine r_iload_n cd_F_truly_26 rfl ?_
        refine r_iconst cd_F_truly_27 ?_
        refine r_bipush cd_F_truly_28 ?_
        refine r_cv3 cd_F_truly_30 rfl ck_F_truly_F_isWithin rfl (Nat.le_of_ble_eq_true rfl) (sp_isWithin hn ⟨by decide, by decide⟩ ⟨by decide, by decide⟩) ?_
        refine r_ifeq_p cd_F_truly_33 (fun c_33 => ?_) (fun c_33 => ?_)
        · skip
          refine r_ldc2_w cd_F_truly_46 ?_
          exact r_lret cd_F_truly_49 rt_F_truly (by (rw [if_neg (fun z => by obtain ⟨z1, z2, z3, z4, z5⟩ := z; first | exact c_33 z3 | exact c_43 z4)])) (by rfl)
        · skip
          refine r_iload cd_F_truly_36 rfl ?_
          refine r_iconst cd_F_truly_38 ?_
          refine r_iload_n cd_F_truly_39 rfl ?_
          refine r_cv3 cd_F_truly_40 rfl ck_F_truly_F_isWithin rfl (Nat.le_of_ble_eq_true rfl) (sp_isWithin hk ⟨by decide, by decide⟩ hn) ?_
          refine r_ifne_p cd_F_truly_43 (fun c_43 => ?_) (fun c_43 => ?_)
          · skip
            refine r_iload_n cd_F_truly_50 rfl ?_
            refine r_iload_n cd_F_truly_51 rfl ?_
            refine r_iload_n cd_F_truly_52 rfl ?_
            refine r_iload cd_F_truly_53 rfl ?_
            refine r_iload cd_F_truly_55 rfl ?_
            refine r_cv5 cd_F_truly_57 rfl ck_F_truly_Chances_isTheFirst rfl (Nat.le_of_ble_eq_true rfl) (sp_isTheFirst c_4 c_11 c_43.1 c_43.2 c_33.2 c_19) ?_
            exact r_lret cd_F_truly_60 rt_F_truly (by (rw [if_pos ⟨c_4, c_11, c_33, c_43, c_19⟩])) (by rfl)
          · skip
            refine r_ldc2_w cd_F_truly_46 ?_
            exact r_lret cd_F_truly_49 rt_F_truly (by (rw [if_neg (fun z => by obtain ⟨z1, z2, z3, z4, z5⟩ := z; first | exact c_33 z3 | exact c_43 z4)])) (by rfl)
      · skip
        refine r_ldc2_w cd_F_truly_22 ?_
        exact r_lret cd_F_truly_25 rt_F_truly (by (rw [if_neg (fun z => by obtain ⟨z1, z2, z3, z4, z5⟩ := z; first | exact c_4 z1 | exact c_11 z2 | exact c_19 z5)])) (by rfl)
theorem prt_0 {l p : Int} (l0 : 0 < l) (l1 : l ≤ 9000000000000000000) : prt 0 l p = if p = 0 then 0 else 1 := by
  rw [prt_gcd (by omega) (by omega) l0]
  show (if p = 0 then (0 : Int) else l) / ((Nat.gcd 0 l.toNat : Nat) : Int) = _
  rw [Nat.gcd_zero_left, show ((l.toNat : Nat) : Int) = l by omega]
  split
  · rw [Int.zero_ediv]
  · rw [Int.ediv_self (by omega)]
theorem tru_eq {a b n k p : Int} (f1 : 0 ≤ fst a n k ∧ fst a n k ≤ 10000000000000000) (f2 : 0 ≤ fst b n k ∧ fst b n k ≤ 10000000000000000) (hp : p = 0 ∨ p = 1) : tru a b n k p = if fst a n k + fst b n k = 0 then p else prt (fst a n k) (fst a n k + fst b n k) p := by
  unfold tru
  by_cases z : fst a n k + fst b n k = 0
  · rw [if_pos z, if_pos (by omega), prt_0 (by omega) (by omega)]
    split <;> omega
  · rw [if_neg z]
    by_cases y : fst a n k = 0
    · rw [if_pos y, prt_0 (by omega) (by omega), y, prt_0 (by omega) (by omega)]
    · rw [if_neg y]
theorem sp_M_truly {q : Nat} {a b n k p : Int} (ha : inR a) (hb : inR b) (hn : inR n) (hk : inR k) (hp : inR p) : Sp xs m_M_truly [vR q, vI a, vI b, vI n, vI k, vI p] h (some (vL (trR a b n k p))) h := by
  unfold trR
  have tail : ((0 ≤ a ∧ a ≤ 10) ∧ (0 ≤ b ∧ b ≤ 10) ∧ (0 ≤ n ∧ n ≤ 16) ∧ (0 ≤ k ∧ k ≤ n) ∧ (p = 0 ∨ p = 1)) → Rn xs m_M_truly 54 [vR q, vI a, vI b, vI n, vI k, vI p, vU, vU, vU, vU] [] h (some (vL (tru a b n k p))) h := by
    intro z
    obtain ⟨z1, z2, z3, z4, z5⟩ := z
    have f1 := fst_bd z1 z4.1 z4.2 z3.2
    have f2 := fst_bd z2 z4.1 z4.2 z3.2
    have s1 : Sp xs m_M_power [vL a, vI k] h (some (vL (pwA a k.toNat 1))) h := sp_M_power z4.1 (by omega)
    have s2 : Sp xs m_M_power [vL (10 - a), vI (n - k)] h (some (vL (pwA (10 - a) (n - k).toNat 1))) h := sp_M_power (by omega) (by omega)
    have s3 : Sp xs m_M_power [vL b, vI k] h (some (vL (pwA b k.toNat 1))) h := sp_M_power z4.1 (by omega)
    have s4 : Sp xs m_M_power [vL (10 - b), vI (n - k)] h (some (vL (pwA (10 - b) (n - k).toNat 1))) h := sp_M_power (by omega) (by omega)
    have hl := lcm_bd (fst a n k + fst b n k) 0
    have t2 : Rn xs m_M_truly 100 [vR q, vI a, vI b, vI n, vI k, vI p, vL (fst a n k), vU, vL (fst b n k), vU] [] h (some (vL (tru a b n k p))) h := by
      rw [tru_eq f1 f2 z5]
      by_cases y : fst a n k + fst b n k = 0
      · skip
        have y2 : lcm (fst a n k + fst b n k) 0 = 0 := lcm_0.mpr y
        rw [if_pos y]
        refine r_lload cd_M_truly_100 rfl ?_
        refine r_lload cd_M_truly_102 rfl ?_
        refine r_ladd cd_M_truly_104 ?_
        refine r_lconst0 cd_M_truly_105 ?_
        refine r_lcmp cd_M_truly_106 ⟨by omega, by omega⟩ ⟨by omega, by omega⟩ ?_
        refine r_if_ne cd_M_truly_107 ⟨by omega, by omega⟩ (fun c_107 => ?_) (fun c_107 => ?_)
        · skip
          omega
        · skip
          refine r_iload cd_M_truly_110 rfl ?_
          refine r_i2l cd_M_truly_112 ⟨by omega, by omega⟩ ?_
          refine r_goto cd_M_truly_113 ?_
          exact r_lret cd_M_truly_128 rt_M_truly (by rfl) (by rfl)
      · skip
        have y2 : lcm (fst a n k + fst b n k) 0 ≠ 0 := fun w => y (lcm_0.mp w)
        rw [if_neg y]
        refine r_lload cd_M_truly_100 rfl ?_
        refine r_lload cd_M_truly_102 rfl ?_
        refine r_ladd cd_M_truly_104 ?_
        refine r_lconst0 cd_M_truly_105 ?_
        refine r_lcmp cd_M_truly_106 ⟨by omega, by omega⟩ ⟨by omega, by omega⟩ ?_
        refine r_if_ne cd_M_truly_107 ⟨by omega, by omega⟩ (fun c_107 => ?_) (fun c_107 => ?_)
        · skip
          refine r_lload cd_M_truly_116 rfl ?_
          refine r_lload cd_M_truly_118 rfl ?_
          refine r_lload cd_M_truly_120 rfl ?_
          refine r_ladd cd_M_truly_122 ?_
          refine r_iload cd_M_truly_123 rfl ?_
          refine r_cv3 cd_M_truly_125 rfl ck_M_truly_M_lowest rfl (Nat.le_of_ble_eq_true rfl) (sp_lowest (by omega) (by omega) (by omega) (by omega) z5) ?_
          exact r_lret cd_M_truly_128 rt_M_truly (by rfl) (by rfl)
        · skip
          omega
    refine r_iload_n cd_M_truly_54 rfl ?_
    refine r_i2l cd_M_truly_55 ⟨by omega, by omega⟩ ?_
    refine r_iload cd_M_truly_56 rfl ?_
    refine r_cv2 cd_M_truly_58 rfl ck_M_truly_M_power rfl (Nat.le_of_ble_eq_true rfl) s1 ?_
    refine r_ldc2_w cd_M_truly_61 ?_
    refine r_iload_n cd_M_truly_64 rfl ?_
    refine r_i2l cd_M_truly_65 ⟨by omega, by omega⟩ ?_
    refine r_lsub cd_M_truly_66 ?_
    refine r_iload_n cd_M_truly_67 rfl ?_
    refine r_iload cd_M_truly_68 rfl ?_
    refine r_isub cd_M_truly_70 ?_
    refine r_cv2 cd_M_truly_71 rfl ck_M_truly_M_power rfl (Nat.le_of_ble_eq_true rfl) s2 ?_
    refine r_lmul cd_M_truly_74 ?_
    refine r_lstore10_6 cd_M_truly_75 rfl ?_
    refine r_iload_n cd_M_truly_77 rfl ?_
    refine r_i2l cd_M_truly_78 ⟨by omega, by omega⟩ ?_
    refine r_iload cd_M_truly_79 rfl ?_
    refine r_cv2 cd_M_truly_81 rfl ck_M_truly_M_power rfl (Nat.le_of_ble_eq_true rfl) s3 ?_
    refine r_ldc2_w cd_M_truly_84 ?_
    refine r_iload_n cd_M_truly_87 rfl ?_
    refine r_i2l cd_M_truly_88 ⟨by omega, by omega⟩ ?_
    refine r_lsub cd_M_truly_89 ?_
    refine r_iload_n cd_M_truly_90 rfl ?_
    refine r_iload cd_M_truly_91 rfl ?_
    refine r_isub cd_M_truly_93 ?_
    refine r_cv2 cd_M_truly_94 rfl ck_M_truly_M_power rfl (Nat.le_of_ble_eq_true rfl) s4 ?_
    refine r_lmul cd_M_truly_97 ?_
    refine r_lstore10_8 cd_M_truly_98 rfl ?_
    exact t2
  refine en_M_truly ?_
  refine r_iload_n cd_M_truly_0 rfl ?_
  refine r_iconst cd_M_truly_1 ?_
  refine r_bipush cd_M_truly_2 ?_
  refine r_cv3 cd_M_truly_4 rfl ck_M_truly_M_in rfl (Nat.le_of_ble_eq_true rfl) (sp_M_in ha ⟨by decide, by decide⟩ ⟨by decide, by decide⟩) ?_
  refine r_ifeq_p cd_M_truly_7 (fun c_7 => ?_) (fun c_7 => ?_)
  · skip
    refine r_ldc2_w cd_M_truly_50 ?_
    exact r_lret cd_M_truly_53 rt_M_truly (by (rw [if_neg (fun z => by obtain ⟨z1, z2, z3, z4, z5⟩ := z; first | exact c_7 z1 | exact c_17 z2 | exact c_27 z3 | exact c_37 z4 | (exact c_47 (by omega)))])) (by rfl)
  · skip
    refine r_iload_n cd_M_truly_10 rfl ?_
    refine r_iconst cd_M_truly_11 ?_
    refine r_bipush cd_M_truly_12 ?_
    refine r_cv3 cd_M_truly_14 rfl ck_M_truly_M_in rfl (Nat.le_of_ble_eq_true rfl) (sp_M_in hb ⟨by decide, by decide⟩ ⟨by decide, by decide⟩) ?_
    refine r_ifeq_p cd_M_truly_17 (fun c_17 => ?_) (fun c_17 => ?_)
    · skip
      refine r_ldc2_w cd_M_truly_50 ?_
      exact r_lret cd_M_truly_53 rt_M_truly (by (rw [if_neg (fun z => by obtain ⟨z1, z2, z3, z4, z5⟩ := z; first | exact c_7 z1 | exact c_17 z2 | exact c_27 z3 | exact c_37 z4 | (exact c_47 (by omega)))])) (by rfl)
    · skip
      refine r_iload_n cd_M_truly_20 rfl ?_
      refine r_iconst cd_M_truly_21 ?_
      refine r_bipush cd_M_truly_22 ?_
      refine r_cv3 cd_M_truly_24 rfl ck_M_truly_M_in rfl (Nat.le_of_ble_eq_true rfl) (sp_M_in hn ⟨by decide, by decide⟩ ⟨by decide, by decide⟩) ?_
      refine r_ifeq_p cd_M_truly_27 (fun c_27 => ?_) (fun c_27 => ?_)
      · skip
        refine r_ldc2_w cd_M_truly_50 ?_
        exact r_lret cd_M_truly_53 rt_M_truly (by (rw [if_neg (fun z => by obtain ⟨z1, z2, z3, z4, z5⟩ := z; first | exact c_7 z1 | exact c_17 z2 | exact c_27 z3 | exact c_37 z4 | (exact c_47 (by omega)))])) (by rfl)
      · skip
        refine r_iload cd_M_truly_30 rfl ?_
        refine r_iconst cd_M_truly_32 ?_
        refine r_iload_n cd_M_truly_33 rfl ?_
        refine r_cv3 cd_M_truly_34 rfl ck_M_truly_M_in rfl (Nat.le_of_ble_eq_true rfl) (sp_M_in hk ⟨by decide, by decide⟩ hn) ?_
        refine r_ifeq_p cd_M_truly_37 (fun c_37 => ?_) (fun c_37 => ?_)
        · skip
          refine r_ldc2_w cd_M_truly_50 ?_
          exact r_lret cd_M_truly_53 rt_M_truly (by (rw [if_neg (fun z => by obtain ⟨z1, z2, z3, z4, z5⟩ := z; first | exact c_7 z1 | exact c_17 z2 | exact c_27 z3 | exact c_37 z4 | (exact c_47 (by omega)))])) (by rfl)
        · skip
          refine r_iload cd_M_truly_40 rfl ?_
          refine r_iconst cd_M_truly_42 ?_
          refine r_iconst cd_M_truly_43 ?_
          refine r_cv3 cd_M_truly_44 rfl ck_M_truly_M_in rfl (Nat.le_of_ble_eq_true rfl) (sp_M_in hp ⟨by decide, by decide⟩ ⟨by decide, by decide⟩) ?_
          refine r_ifne_p cd_M_truly_47 (fun c_47 => ?_) (fun c_47 => ?_)
          · skip
            (have zz : ((0 ≤ a ∧ a ≤ 10) ∧ (0 ≤ b ∧ b ≤ 10) ∧ (0 ≤ n ∧ n ≤ 16) ∧ (0 ≤ k ∧ k ≤ n) ∧ (p = 0 ∨ p = 1)) := ⟨c_7, c_17, c_27, c_37, by omega⟩; rw [if_pos zz]; exact tail zz)
          · skip
            refine r_ldc2_w cd_M_truly_50 ?_
            exact r_lret cd_M_truly_53 rt_M_truly (by (rw [if_neg (fun z => by obtain ⟨z1, z2, z3, z4, z5⟩ := z; first | exact c_7 z1 | exact c_17 z2 | exact c_27 z3 | exact c_37 z4 | (exact c_47 (by omega)))])) (by rfl)
end C55
