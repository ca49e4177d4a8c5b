-- contracts of Chances: isTheFirst, winsRace
section C47
variable {xs : List Int} {h : MH}
theorem pwA_bd {b : Int} (b0 : 0 ≤ b) (b1 : b ≤ 10) : ∀ (k : Nat) (a M : Int), 0 ≤ a → a ≤ M → 0 ≤ pwA b k a ∧ pwA b k a ≤ M * 10 ^ k
  | 0, a, M, h0, h1 => by unfold pwA; rw [Int.pow_zero, Int.mul_one]; exact ⟨h0, h1⟩
  | k + 1, a, M, h0, h1 => by
    have m := mul_bd h0 h1 b0 b1
    have := pwA_bd b0 b1 k (a * b) (M * 10) m.1 m.2
    unfold pwA
    rw [Int.pow_succ, Int.mul_comm (10 ^ k) 10, ← Int.mul_assoc]
    exact this
theorem p10 : ∀ n : Nat, n < 17 → (10 : Int) ^ n ≤ 10000000000000000 := by decide
def fst (a n k : Int) : Int := pwA a k.toNat 1 * pwA (10 - a) (n - k).toNat 1
theorem fst_bd {a n k : Int} (a0 : 0 ≤ a ∧ a ≤ 10) (k0 : 0 ≤ k) (k1 : k ≤ n) (n1 : n ≤ 16) : 0 ≤ fst a n k ∧ fst a n k ≤ 10000000000000000 := by
  have h1 := pwA_bd a0.1 a0.2 k.toNat 1 1 (by omega) (by omega)
  have h2 := pwA_bd (b := 10 - a) (by omega) (by omega) (n - k).toNat 1 1 (by omega) (by omega)
  have h3 := mul_bd h1.1 h1.2 h2.1 h2.2
  rw [Int.one_mul, Int.one_mul, ← Int.pow_add] at h3
  have h4 := p10 (k.toNat + (n - k).toNat) (by omega)
  unfold fst
  omega
def tru (a b n k p : Int) : Int := if fst a n k = 0 then prt 0 1 p else prt (fst a n k) (fst a n k + fst b n k) p
theorem sp_isTheFirst {a b n k p : Int} (a0 : 0 ≤ a ∧ a ≤ 10) (b0 : 0 ≤ b ∧ b ≤ 10) (k0 : 0 ≤ k) (k1 : k ≤ n) (n1 : n ≤ 16) (p0 : p = 0 ∨ p = 1) : Sp xs m_Chances_isTheFirst [vI a, vI b, vI n, vI k, vI p] h (some (vL (tru a b n k p))) h := by
  have f1 := fst_bd a0 k0 k1 n1
  have f2 := fst_bd b0 k0 k1 n1
  have hl := lcm_bd (fst a n k) 0
  have s1 : Sp xs m_Chances_power [vI a, vI k] h (some (vL (pwA a k.toNat 1))) h := sp_power ⟨by omega, by omega⟩ k0 (by omega)
  have s2 : Sp xs m_Chances_power [vI (10 - a), vI (n - k)] h (some (vL (pwA (10 - a) (n - k).toNat 1))) h := sp_power ⟨by omega, by omega⟩ (by omega) (by omega)
  have s3 : Sp xs m_Chances_power [vI b, vI k] h (some (vL (pwA b k.toNat 1))) h := sp_power ⟨by omega, by omega⟩ k0 (by omega)
  have s4 : Sp xs m_Chances_power [vI (10 - b), vI (n - k)] h (some (vL (pwA (10 - b) (n - k).toNat 1))) h := sp_power ⟨by omega, by omega⟩ (by omega) (by omega)
  have tail : Rn xs m_Chances_isTheFirst 36 [vI a, vI b, vI n, vI k, vI p, vL (fst a n k), vU, vL (fst b n k), vU] [] h (some (vL (tru a b n k p))) h := by
    unfold tru
    by_cases z : fst a n k = 0
    · skip
      have z2 : lcm (fst a n k) 0 = 0 := lcm_0.mpr z
      rw [if_pos z]
      refine r_lload cd_Chances_isTheFirst_36 rfl ?_
      refine r_lconst0 cd_Chances_isTheFirst_38 ?_
      refine r_lcmp cd_Chances_isTheFirst_39 ⟨by omega, by omega⟩ ⟨by omega, by omega⟩ ?_
      refine r_if_ne cd_Chances_isTheFirst_40 ⟨by omega, by omega⟩ (fun c_40 => ?_) (fun c_40 => ?_)
      · skip
        omega
      · skip
        refine r_lconst0 cd_Chances_isTheFirst_43 ?_
        refine r_lconst1 cd_Chances_isTheFirst_44 ?_
        refine r_iload cd_Chances_isTheFirst_45 rfl ?_
        refine r_cv3 cd_Chances_isTheFirst_47 rfl ck_Chances_isTheFirst_Chances_part rfl (Nat.le_of_ble_eq_true rfl) (sp_part (by omega) (by omega) (by omega) (by omega) p0) ?_
        exact r_lret cd_Chances_isTheFirst_50 rt_Chances_isTheFirst (by rfl) (by rfl)
    · skip
      have z2 : lcm (fst a n k) 0 ≠ 0 := fun y => z (lcm_0.mp y)
      rw [if_neg z]
      refine r_lload cd_Chances_isTheFirst_36 rfl ?_
      refine r_lconst0 cd_Chances_isTheFirst_38 ?_
      refine r_lcmp cd_Chances_isTheFirst_39 ⟨by omega, by omega⟩ ⟨by omega, by omega⟩ ?_
      refine r_if_ne cd_Chances_isTheFirst_40 ⟨by omega, by omega⟩ (fun c_40 => ?_) (fun c_40 => ?_)
      · skip
        refine r_lload cd_Chances_isTheFirst_51 rfl ?_
        refine r_lload cd_Chances_isTheFirst_53 rfl ?_
        refine r_lload cd_Chances_isTheFirst_55 rfl ?_
        refine r_ladd cd_Chances_isTheFirst_57 ?_
        refine r_iload cd_Chances_isTheFirst_58 rfl ?_
        refine r_cv3 cd_Chances_isTheFirst_60 rfl ck_Chances_isTheFirst_Chances_part rfl (Nat.le_of_ble_eq_true rfl) (sp_part (by omega) (by omega) (by omega) (by omega) p0) ?_
        exact r_lret cd_Chances_isTheFirst_63 rt_Chances_isTheFirst (by rfl) (by rfl)
      · skip
        omega
  refine en_Chances_isTheFirst ?_
  refine r_iload_n cd_Chances_isTheFirst_0 rfl ?_
  refine r_iload_n cd_Chances_isTheFirst_1 rfl ?_
  refine r_cv2 cd_Chances_isTheFirst_2 rfl ck_Chances_isTheFirst_Chances_power rfl (Nat.le_of_ble_eq_true rfl) s1 ?_
  refine r_bipush cd_Chances_isTheFirst_5 ?_
  refine r_iload_n cd_Chances_isTheFirst_7 rfl ?_
  refine r_isub cd_Chances_isTheFirst_8 ?_
  refine r_iload_n cd_Chances_isTheFirst_9 rfl ?_
  refine r_iload_n cd_Chances_isTheFirst_10 rfl ?_
  refine r_isub cd_Chances_isTheFirst_11 ?_
  refine r_cv2 cd_Chances_isTheFirst_12 rfl ck_Chances_isTheFirst_Chances_power rfl (Nat.le_of_ble_eq_true rfl) s2 ?_
  refine r_lmul cd_Chances_isTheFirst_15 ?_
  refine r_lstore9_5 cd_Chances_isTheFirst_16 rfl ?_
  refine r_iload_n cd_Chances_isTheFirst_18 rfl ?_
  refine r_iload_n cd_Chances_isTheFirst_19 rfl ?_
  refine r_cv2 cd_Chances_isTheFirst_20 rfl ck_Chances_isTheFirst_Chances_power rfl (Nat.le_of_ble_eq_true rfl) s3 ?_
  refine r_bipush cd_Chances_isTheFirst_23 ?_
  refine r_iload_n cd_Chances_isTheFirst_25 rfl ?_
  refine r_isub cd_Chances_isTheFirst_26 ?_
  refine r_iload_n cd_Chances_isTheFirst_27 rfl ?_
  refine r_iload_n cd_Chances_isTheFirst_28 rfl ?_
  refine r_isub cd_Chances_isTheFirst_29 ?_
  refine r_cv2 cd_Chances_isTheFirst_30 rfl ck_Chances_isTheFirst_Chances_power rfl (Nat.le_of_ble_eq_true rfl) s4 ?_
  refine r_lmul cd_Chances_isTheFirst_33 ?_
  refine r_lstore9_7 cd_Chances_isTheFirst_34 rfl ?_
  exact tail
def wrA (own oth t : Int) : Nat → Int → Int → Int → Int
  | 0, _, u, _ => u
  | m + 1, k, u, c => wrA own oth t m (k + 1) (u + c * pwA t own.toNat 1 * pwA (10 - t) k.toNat 1 * pwA 10 (oth - 1 - k).toNat 1) (c * (own + k) / (k + 1))
theorem wr_k : ∀ own : Nat, own < 11 → ∀ oth : Nat, oth < 11 → ∀ t : Nat, t < 11 → own + oth < 20 → 0 ≤ wrA own oth t oth 0 0 1 ∧ wrA own oth t oth 0 0 1 ≤ 9000000000000000000 := by decide +kernel
theorem p10b : ∀ n : Nat, n < 19 → 0 ≤ pwA 10 n 1 ∧ pwA 10 n 1 ≤ 1000000000000000000 := by decide
theorem p20 : ∀ n : Nat, n < 11 → (20 : Int) ^ n ≤ 10240000000000 := by decide
theorem lp_winsRace {own oth t p : Int} (o0 : 1 ≤ own ∧ own ≤ 10) (q0 : 1 ≤ oth ∧ oth ≤ 10) (oq : own + oth ≤ 19) (t0 : 0 ≤ t ∧ t ≤ 10) (p0 : p = 0 ∨ p = 1) : ∀ (m : Nat) (k u c : Int), 0 ≤ k → k + m = oth → 0 ≤ c → c ≤ 20 ^ k.toNat → 0 ≤ wrA own oth t m k u c → wrA own oth t m k u c ≤ 9000000000000000000 → Rn xs m_Chances_winsRace 9 [vI own, vI oth, vI t, vI p, vL u, vU, vL c, vU, vI k] [] h (some (vL (prt (wrA own oth t m k u c) (pwA 10 (own + oth - 1).toNat 1) p))) h := by
  intro m
  induction m with
  | zero =>
    intro k u c k0 k1 c0 c1 w0 w1
    unfold wrA at w0 w1 ⊢
    have hp := p10b (own + oth - 1).toNat (by omega)
    have s3 : Sp xs m_Chances_power [vI 10, vI (own + oth - 1)] h (some (vL (pwA 10 (own + oth - 1).toNat 1))) h := sp_power ⟨by omega, by omega⟩ (by omega) (by omega)
    refine r_iload cd_Chances_winsRace_9 rfl ?_
    refine r_iload_n cd_Chances_winsRace_11 rfl ?_
    refine r_icmp_ge cd_Chances_winsRace_12 ⟨by omega, by omega⟩ ⟨by omega, by omega⟩ (fun c_12 => ?_) (fun c_12 => ?_)
    · skip
      refine r_lload cd_Chances_winsRace_72 rfl ?_
      refine r_bipush cd_Chances_winsRace_74 ?_
      refine r_iload_n cd_Chances_winsRace_76 rfl ?_
      refine r_iload_n cd_Chances_winsRace_77 rfl ?_
      refine r_iadd cd_Chances_winsRace_78 ?_
      refine r_iconst cd_Chances_winsRace_79 ?_
      refine r_isub cd_Chances_winsRace_80 ?_
      refine r_cv2 cd_Chances_winsRace_81 rfl ck_Chances_winsRace_Chances_power rfl (Nat.le_of_ble_eq_true rfl) s3 ?_
      refine r_iload_n cd_Chances_winsRace_84 rfl ?_
      refine r_cv3 cd_Chances_winsRace_85 rfl ck_Chances_winsRace_Chances_part rfl (Nat.le_of_ble_eq_true rfl) (sp_part w0 w1 (by omega) (by omega) p0) ?_
      exact r_lret cd_Chances_winsRace_88 rt_Chances_winsRace (by rfl) (by rfl)
    · skip
      omega
  | succ m ih =>
    intro k u c k0 k1 c0 c1 w0 w1
    have s1 : Sp xs m_Chances_power [vI t, vI own] h (some (vL (pwA t own.toNat 1))) h := sp_power ⟨by omega, by omega⟩ (by omega) (by omega)
    have s2 : Sp xs m_Chances_power [vI (10 - t), vI k] h (some (vL (pwA (10 - t) k.toNat 1))) h := sp_power ⟨by omega, by omega⟩ (by omega) (by omega)
    have s3 : Sp xs m_Chances_power [vI 10, vI (oth - 1 - k)] h (some (vL (pwA 10 (oth - 1 - k).toNat 1))) h := sp_power ⟨by omega, by omega⟩ (by omega) (by omega)
    have hc := p20 k.toNat (by omega)
    have hm := mul_bd c0 c1 (y := own + k) (n := 20) (by omega) (by omega)
    have e1 : (c * (own + k)).tdiv (k + 1) = c * (own + k) / (k + 1) := Int.tdiv_eq_ediv_of_nonneg hm.1
    have d0 : 0 ≤ c * (own + k) / (k + 1) := Int.ediv_nonneg hm.1 (by omega)
    have d1 : c * (own + k) / (k + 1) ≤ c * (own + k) := Int.ediv_le_self _ hm.1
    unfold wrA at w0 w1 ⊢
    have e9 := ih (k + 1) (u + c * pwA t own.toNat 1 * pwA (10 - t) k.toNat 1 * pwA 10 (oth - 1 - k).toNat 1) (c * (own + k) / (k + 1)) (by omega) (by omega) d0 (by rw [show (k + 1).toNat = k.toNat + 1 by omega, Int.pow_succ]; omega) w0 w1
    refine r_iload cd_Chances_winsRace_9 rfl ?_
    refine r_iload_n cd_Chances_winsRace_11 rfl ?_
    refine r_icmp_ge cd_Chances_winsRace_12 ⟨by omega, by omega⟩ ⟨by omega, by omega⟩ (fun c_12 => ?_) (fun c_12 => ?_)
    · skip
      omega
    · skip
      refine r_lload cd_Chances_winsRace_15 rfl ?_
      refine r_lload cd_Chances_winsRace_17 rfl ?_
      refine r_iload_n cd_Chances_winsRace_19 rfl ?_
      refine r_iload_n cd_Chances_winsRace_20 rfl ?_
      refine r_cv2 cd_Chances_winsRace_21 rfl ck_Chances_winsRace_Chances_power rfl (Nat.le_of_ble_eq_true rfl) s1 ?_
      refine r_lmul cd_Chances_winsRace_24 ?_
      refine r_bipush cd_Chances_winsRace_25 ?_
      refine r_iload_n cd_Chances_winsRace_27 rfl ?_
      refine r_isub cd_Chances_winsRace_28 ?_
      refine r_iload cd_Chances_winsRace_29 rfl ?_
      refine r_cv2 cd_Chances_winsRace_31 rfl ck_Chances_winsRace_Chances_power rfl (Nat.le_of_ble_eq_true rfl) s2 ?_
      refine r_lmul cd_Chances_winsRace_34 ?_
      refine r_bipush cd_Chances_winsRace_35 ?_
      refine r_iload_n cd_Chances_winsRace_37 rfl ?_
      refine r_iconst cd_Chances_winsRace_38 ?_
      refine r_isub cd_Chances_winsRace_39 ?_
      refine r_iload cd_Chances_winsRace_40 rfl ?_
      refine r_isub cd_Chances_winsRace_42 ?_
      refine r_cv2 cd_Chances_winsRace_43 rfl ck_Chances_winsRace_Chances_power rfl (Nat.le_of_ble_eq_true rfl) s3 ?_
      refine r_lmul cd_Chances_winsRace_46 ?_
      refine r_ladd cd_Chances_winsRace_47 ?_
      refine r_lstore9_4 cd_Chances_winsRace_48 rfl ?_
      refine r_lload cd_Chances_winsRace_50 rfl ?_
      refine r_iload_n cd_Chances_winsRace_52 rfl ?_
      refine r_iload cd_Chances_winsRace_53 rfl ?_
      refine r_iadd cd_Chances_winsRace_55 ?_
      refine r_i2l cd_Chances_winsRace_56 ⟨by omega, by omega⟩ ?_
      refine r_lmul cd_Chances_winsRace_57 ?_
      refine r_iload cd_Chances_winsRace_58 rfl ?_
      refine r_iconst cd_Chances_winsRace_60 ?_
      refine r_iadd cd_Chances_winsRace_61 ?_
      refine r_i2l cd_Chances_winsRace_62 ⟨by omega, by omega⟩ ?_
      refine r_ldiv cd_Chances_winsRace_63 ⟨by omega, by omega⟩ ⟨by omega, by omega⟩ (by omega) ?_
      refine r_lstore9_6 cd_Chances_winsRace_64 rfl ?_
      refine r_iinc9_8 cd_Chances_winsRace_66 rfl ?_
      refine r_goto cd_Chances_winsRace_69 ?_
      (rw [e1]; exact e9)
theorem sp_winsRace {own oth t p : Int} (o0 : 1 ≤ own ∧ own ≤ 10) (q0 : 1 ≤ oth ∧ oth ≤ 10) (oq : own + oth ≤ 19) (t0 : 0 ≤ t ∧ t ≤ 10) (p0 : p = 0 ∨ p = 1) : Sp xs m_Chances_winsRace [vI own, vI oth, vI t, vI p] h (some (vL (prt (wrA own oth t oth.toNat 0 0 1) (pwA 10 (own + oth - 1).toNat 1) p))) h := by
  have hw := wr_k own.toNat (by omega) oth.toNat (by omega) t.toNat (by omega) (by omega)
  rw [show ((own.toNat : Nat) : Int) = own by omega, show ((oth.toNat : Nat) : Int) = oth by omega, show ((t.toNat : Nat) : Int) = t by omega] at hw
  refine en_Chances_winsRace ?_
  refine r_lconst0 cd_Chances_winsRace_0 ?_
  refine r_lstore9_4 cd_Chances_winsRace_1 rfl ?_
  refine r_lconst1 cd_Chances_winsRace_3 ?_
  refine r_lstore9_6 cd_Chances_winsRace_4 rfl ?_
  refine r_iconst cd_Chances_winsRace_6 ?_
  refine r_istore9_8 cd_Chances_winsRace_7 rfl ?_
  exact lp_winsRace o0 q0 oq t0 p0 oth.toNat 0 0 1 (by omega) (by omega) (by omega) (by decide) hw.1 hw.2
end C47
