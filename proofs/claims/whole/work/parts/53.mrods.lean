-- the reference's rods
section C53
variable {xs : List Int} {h : MH}
theorem sp_M_in {v lo hi : Int} (h1 : inR v) (h2 : inR lo) (h3 : inR hi) : Sp xs m_M_in [vI v, vI lo, vI hi] h (some (vI (bp (lo ≤ v ∧ v ≤ hi)))) h := by
  obtain ⟨a1, a2⟩ := h1
  obtain ⟨a3, a4⟩ := h2
  obtain ⟨a5, a6⟩ := h3
  refine en_M_in ?_
  refine r_iload_n cd_M_in_0 rfl ?_
  refine r_iload_n cd_M_in_1 rfl ?_
  refine r_icmp_lt cd_M_in_2 ⟨by omega, by omega⟩ ⟨by omega, by omega⟩ (fun c_2 => ?_) (fun c_2 => ?_)
  · skip
    refine r_iconst cd_M_in_14 ?_
    exact r_zret cd_M_in_15 rt_M_in (by (unfold bp; split <;> first | rfl | omega)) (by rfl)
  · skip
    refine r_iload_n cd_M_in_5 rfl ?_
    refine r_iload_n cd_M_in_6 rfl ?_
    refine r_icmp_gt cd_M_in_7 ⟨by omega, by omega⟩ ⟨by omega, by omega⟩ (fun c_7 => ?_) (fun c_7 => ?_)
    · skip
      refine r_iconst cd_M_in_14 ?_
      exact r_zret cd_M_in_15 rt_M_in (by (unfold bp; split <;> first | rfl | omega)) (by rfl)
    · skip
      refine r_iconst cd_M_in_10 ?_
      refine r_goto cd_M_in_11 ?_
      exact r_zret cd_M_in_15 rt_M_in (by (unfold bp; split <;> first | rfl | omega)) (by rfl)
theorem sp_M_isRod {r : Int} (hr : inR r) : Sp xs m_M_isRod [vI r] h (some (vI (bp (0 ≤ r ∧ r < 8)))) h := by
  have s1 := sp_M_in (xs := xs) (h := h) hr (⟨by decide, by decide⟩ : inR 0) (⟨by decide, by decide⟩ : inR 7)
  rw [bp_iff (show (0 ≤ r ∧ r ≤ 7) ↔ (0 ≤ r ∧ r < 8) by omega)] at s1
  refine en_M_isRod ?_
  refine r_iload_n cd_M_isRod_0 rfl ?_
  refine r_iconst cd_M_isRod_1 ?_
  refine r_bipush cd_M_isRod_2 ?_
  refine r_cv3 cd_M_isRod_4 rfl ck_M_isRod_M_in rfl (Nat.le_of_ble_eq_true rfl) s1 ?_
  exact r_zret cd_M_isRod_7 rt_M_isRod (by first | rfl | omega | (split <;> first | rfl | omega)) (by rfl)
theorem sp_M_sideOf {r : Int} (h0 : 0 ≤ r) (h1 : r < 8) : Sp xs m_M_sideOf [vI r] h (some (vI (sid r))) h := by
  rcases rod8 h0 h1 with rfl | rfl | rfl | rfl | rfl | rfl | rfl | rfl
  all_goals
    refine en_M_sideOf ?_
    refine r_iload_n cd_M_sideOf_0 rfl ?_
    refine r_if_eq cd_M_sideOf_1 ⟨by omega, by omega⟩ (fun c_1 => ?_) (fun c_1 => ?_)
    · skip
      refine r_iconst cd_M_sideOf_19 ?_
      refine r_goto cd_M_sideOf_20 ?_
      exact r_iret cd_M_sideOf_24 rt_M_sideOf (by first | rfl | omega) (by rfl)
    · skip
      refine r_iload_n cd_M_sideOf_4 rfl ?_
      refine r_iconst cd_M_sideOf_5 ?_
      refine r_icmp_eq cd_M_sideOf_6 ⟨by omega, by omega⟩ ⟨by decide, by decide⟩ (fun c_6 => ?_) (fun c_6 => ?_)
      · skip
        refine r_iconst cd_M_sideOf_19 ?_
        refine r_goto cd_M_sideOf_20 ?_
        exact r_iret cd_M_sideOf_24 rt_M_sideOf (by first | rfl | omega) (by rfl)
      · skip
        refine r_iload_n cd_M_sideOf_9 rfl ?_
        refine r_iconst cd_M_sideOf_10 ?_
        refine r_icmp_eq cd_M_sideOf_11 ⟨by omega, by omega⟩ ⟨by decide, by decide⟩ (fun c_11 => ?_) (fun c_11 => ?_)
        · skip
          refine r_iconst cd_M_sideOf_19 ?_
          refine r_goto cd_M_sideOf_20 ?_
          exact r_iret cd_M_sideOf_24 rt_M_sideOf (by first | rfl | omega) (by rfl)
        · skip
          refine r_iload_n cd_M_sideOf_14 rfl ?_
          refine r_iconst cd_M_sideOf_15 ?_
          refine r_icmp_ne cd_M_sideOf_16 ⟨by omega, by omega⟩ ⟨by decide, by decide⟩ (fun c_16 => ?_) (fun c_16 => ?_)
          · skip
            refine r_iconst cd_M_sideOf_23 ?_
            exact r_iret cd_M_sideOf_24 rt_M_sideOf (by first | rfl | omega) (by rfl)
          · skip
            refine r_iconst cd_M_sideOf_19 ?_
            refine r_goto cd_M_sideOf_20 ?_
            exact r_iret cd_M_sideOf_24 rt_M_sideOf (by first | rfl | omega) (by rfl)
def knd (r : Int) : Int := at_ [0, 1, 3, 2, 2, 3, 1, 0] r
theorem sp_M_kindOf {r : Int} (h0 : 0 ≤ r) (h1 : r < 8) : Sp xs m_M_kindOf [vI r] h (some (vI (knd r))) h := by
  have s1 := sp_M_sideOf (xs := xs) (h := h) h0 h1
  have hs := sid_bd h0 h1
  rcases rod8 h0 h1 with rfl | rfl | rfl | rfl | rfl | rfl | rfl | rfl
  all_goals
    refine en_M_kindOf ?_
    refine r_iload_n cd_M_kindOf_0 rfl ?_
    refine r_cv1 cd_M_kindOf_1 rfl ck_M_kindOf_M_sideOf rfl (Nat.le_of_ble_eq_true rfl) s1 ?_
    refine r_if_ne cd_M_kindOf_4 ⟨by omega, by omega⟩ (fun c_4 => ?_) (fun c_4 => ?_)
    · skip
      refine r_bipush cd_M_kindOf_11 ?_
      refine r_iload_n cd_M_kindOf_13 rfl ?_
      refine r_isub cd_M_kindOf_14 ?_
      refine r_istoren2_1 cd_M_kindOf_15 rfl ?_
      refine r_iload_n cd_M_kindOf_16 rfl ?_
      refine r_iconst cd_M_kindOf_17 ?_
      refine r_icmp_ge cd_M_kindOf_18 ⟨by omega, by omega⟩ ⟨by decide, by decide⟩ (fun c_18 => ?_) (fun c_18 => ?_)
      · skip
        refine r_iload_n cd_M_kindOf_25 rfl ?_
        refine r_iconst cd_M_kindOf_26 ?_
        refine r_icmp_ne cd_M_kindOf_27 ⟨by omega, by omega⟩ ⟨by decide, by decide⟩ (fun c_27 => ?_) (fun c_27 => ?_)
        · skip
          refine r_iconst cd_M_kindOf_34 ?_
          exact r_iret cd_M_kindOf_35 rt_M_kindOf (by first | rfl | omega | exact absurd c_4 (by decide)) (by rfl)
        · skip
          refine r_iconst cd_M_kindOf_30 ?_
          refine r_goto cd_M_kindOf_31 ?_
          exact r_iret cd_M_kindOf_35 rt_M_kindOf (by first | rfl | omega | exact absurd c_4 (by decide)) (by rfl)
      · skip
        refine r_iload_n cd_M_kindOf_21 rfl ?_
        refine r_goto cd_M_kindOf_22 ?_
        exact r_iret cd_M_kindOf_35 rt_M_kindOf (by first | rfl | omega | exact absurd c_4 (by decide)) (by rfl)
    · skip
      refine r_iload_n cd_M_kindOf_7 rfl ?_
      refine r_goto cd_M_kindOf_8 ?_
      refine r_istoren2_1 cd_M_kindOf_15 rfl ?_
      refine r_iload_n cd_M_kindOf_16 rfl ?_
      refine r_iconst cd_M_kindOf_17 ?_
      refine r_icmp_ge cd_M_kindOf_18 ⟨by omega, by omega⟩ ⟨by decide, by decide⟩ (fun c_18 => ?_) (fun c_18 => ?_)
      · skip
        refine r_iload_n cd_M_kindOf_25 rfl ?_
        refine r_iconst cd_M_kindOf_26 ?_
        refine r_icmp_ne cd_M_kindOf_27 ⟨by omega, by omega⟩ ⟨by decide, by decide⟩ (fun c_27 => ?_) (fun c_27 => ?_)
        · skip
          refine r_iconst cd_M_kindOf_34 ?_
          exact r_iret cd_M_kindOf_35 rt_M_kindOf (by first | rfl | omega | exact absurd c_4 (by decide)) (by rfl)
        · skip
          refine r_iconst cd_M_kindOf_30 ?_
          refine r_goto cd_M_kindOf_31 ?_
          exact r_iret cd_M_kindOf_35 rt_M_kindOf (by first | rfl | omega | exact absurd c_4 (by decide)) (by rfl)
      · skip
        refine r_iload_n cd_M_kindOf_21 rfl ?_
        refine r_goto cd_M_kindOf_22 ?_
        exact r_iret cd_M_kindOf_35 rt_M_kindOf (by first | rfl | omega | exact absurd c_4 (by decide)) (by rfl)
theorem sp_M_menOf {r : Int} (h0 : 0 ≤ r) (h1 : r < 8) : Sp xs m_M_menOf [vI r] h (some (vI (men r))) h := by
  have s1 := sp_M_kindOf (xs := xs) (h := h) h0 h1
  rcases rod8 h0 h1 with rfl | rfl | rfl | rfl | rfl | rfl | rfl | rfl
  all_goals
    refine en_M_menOf ?_
    refine r_iload_n cd_M_menOf_0 rfl ?_
    refine r_cv1 cd_M_menOf_1 rfl ck_M_menOf_M_kindOf rfl (Nat.le_of_ble_eq_true rfl) s1 ?_
    refine r_istoren2_1 cd_M_menOf_4 rfl ?_
    refine r_iload_n cd_M_menOf_5 rfl ?_
    refine r_if_ne cd_M_menOf_6 ⟨by decide, by decide⟩ (fun c_6 => ?_) (fun c_6 => ?_)
    · skip
      refine r_iload_n cd_M_menOf_13 rfl ?_
      refine r_iconst cd_M_menOf_14 ?_
      refine r_icmp_ne cd_M_menOf_15 ⟨by decide, by decide⟩ ⟨by decide, by decide⟩ (fun c_15 => ?_) (fun c_15 => ?_)
      · skip
        refine r_iload_n cd_M_menOf_22 rfl ?_
        refine r_iconst cd_M_menOf_23 ?_
        refine r_icmp_ne cd_M_menOf_24 ⟨by decide, by decide⟩ ⟨by decide, by decide⟩ (fun c_24 => ?_) (fun c_24 => ?_)
        · skip
          refine r_iconst cd_M_menOf_31 ?_
          exact r_iret cd_M_menOf_32 rt_M_menOf (by first | rfl | exact absurd c_6 (by decide) | exact absurd c_15 (by decide) | exact absurd c_24 (by decide)) (by rfl)
        · skip
          refine r_iconst cd_M_menOf_27 ?_
          refine r_goto cd_M_menOf_28 ?_
          exact r_iret cd_M_menOf_32 rt_M_menOf (by first | rfl | exact absurd c_6 (by decide) | exact absurd c_15 (by decide) | exact absurd c_24 (by decide)) (by rfl)
      · skip
        refine r_iconst cd_M_menOf_18 ?_
        refine r_goto cd_M_menOf_19 ?_
        exact r_iret cd_M_menOf_32 rt_M_menOf (by first | rfl | exact absurd c_6 (by decide) | exact absurd c_15 (by decide) | exact absurd c_24 (by decide)) (by rfl)
    · skip
      refine r_iconst cd_M_menOf_9 ?_
      refine r_goto cd_M_menOf_10 ?_
      exact r_iret cd_M_menOf_32 rt_M_menOf (by first | rfl | exact absurd c_6 (by decide) | exact absurd c_15 (by decide) | exact absurd c_24 (by decide)) (by rfl)
theorem sp_M_apartOf {r : Int} (h0 : 0 ≤ r) (h1 : r < 8) : Sp xs m_M_apartOf [vI r] h (some (vI (gap r))) h := by
  have s1 := sp_M_kindOf (xs := xs) (h := h) h0 h1
  rcases rod8 h0 h1 with rfl | rfl | rfl | rfl | rfl | rfl | rfl | rfl
  all_goals
    refine en_M_apartOf ?_
    refine r_iload_n cd_M_apartOf_0 rfl ?_
    refine r_cv1 cd_M_apartOf_1 rfl ck_M_apartOf_M_kindOf rfl (Nat.le_of_ble_eq_true rfl) s1 ?_
    refine r_istoren2_1 cd_M_apartOf_4 rfl ?_
    refine r_iload_n cd_M_apartOf_5 rfl ?_
    refine r_if_ne cd_M_apartOf_6 ⟨by decide, by decide⟩ (fun c_6 => ?_) (fun c_6 => ?_)
    · skip
      refine r_iload_n cd_M_apartOf_13 rfl ?_
      refine r_iconst cd_M_apartOf_14 ?_
      refine r_icmp_ne cd_M_apartOf_15 ⟨by decide, by decide⟩ ⟨by decide, by decide⟩ (fun c_15 => ?_) (fun c_15 => ?_)
      · skip
        refine r_iload_n cd_M_apartOf_23 rfl ?_
        refine r_iconst cd_M_apartOf_24 ?_
        refine r_icmp_ne cd_M_apartOf_25 ⟨by decide, by decide⟩ ⟨by decide, by decide⟩ (fun c_25 => ?_) (fun c_25 => ?_)
        · skip
          refine r_bipush cd_M_apartOf_33 ?_
          exact r_iret cd_M_apartOf_35 rt_M_apartOf (by first | rfl | exact absurd c_6 (by decide) | exact absurd c_15 (by decide) | exact absurd c_25 (by decide)) (by rfl)
        · skip
          refine r_bipush cd_M_apartOf_28 ?_
          refine r_goto cd_M_apartOf_30 ?_
          exact r_iret cd_M_apartOf_35 rt_M_apartOf (by first | rfl | exact absurd c_6 (by decide) | exact absurd c_15 (by decide) | exact absurd c_25 (by decide)) (by rfl)
      · skip
        refine r_bipush cd_M_apartOf_18 ?_
        refine r_goto cd_M_apartOf_20 ?_
        exact r_iret cd_M_apartOf_35 rt_M_apartOf (by first | rfl | exact absurd c_6 (by decide) | exact absurd c_15 (by decide) | exact absurd c_25 (by decide)) (by rfl)
    · skip
      refine r_iconst cd_M_apartOf_9 ?_
      refine r_goto cd_M_apartOf_10 ?_
      exact r_iret cd_M_apartOf_35 rt_M_apartOf (by first | rfl | exact absurd c_6 (by decide) | exact absurd c_15 (by decide) | exact absurd c_25 (by decide)) (by rfl)
theorem sp_M_widest {r : Int} (h0 : 0 ≤ r) (h1 : r < 8) : Sp xs m_M_widest [vI r] h (some (vI (wid r))) h := by
  refine en_M_widest ?_
  refine r_bipush cd_M_widest_0 ?_
  refine r_iload_n cd_M_widest_2 rfl ?_
  refine r_cv1 cd_M_widest_3 rfl ck_M_widest_M_menOf rfl (Nat.le_of_ble_eq_true rfl) (sp_M_menOf h0 h1) ?_
  refine r_iconst cd_M_widest_6 ?_
  refine r_isub cd_M_widest_7 ?_
  refine r_iload_n cd_M_widest_8 rfl ?_
  refine r_cv1 cd_M_widest_9 rfl ck_M_widest_M_apartOf rfl (Nat.le_of_ble_eq_true rfl) (sp_M_apartOf h0 h1) ?_
  refine r_imul cd_M_widest_12 ?_
  refine r_isub cd_M_widest_13 ?_
  exact r_iret cd_M_widest_14 rt_M_widest (by first | rfl | omega | (split <;> first | rfl | omega)) (by rfl)
theorem sp_M_isMan {r m : Int} (hr : inR r) (hm : inR m) : Sp xs m_M_isMan [vI r, vI m] h (some (vI (bp (0 ≤ m ∧ 0 ≤ r ∧ r < 8 ∧ m < men r)))) h := by
  have hb := fun (q : 0 ≤ r ∧ r < 8) => men_bd q.1 q.2
  refine en_M_isMan ?_
  refine r_iload_n cd_M_isMan_0 rfl ?_
  refine r_cv1 cd_M_isMan_1 rfl ck_M_isMan_M_isRod rfl (Nat.le_of_ble_eq_true rfl) (sp_M_isRod hr) ?_
  refine r_ifeq_p cd_M_isMan_4 (fun c_4 => ?_) (fun c_4 => ?_)
  · skip
    refine r_iconst cd_M_isMan_25 ?_
    exact r_zret cd_M_isMan_26 rt_M_isMan (by first | (rw [bp_t ⟨c_18.1, c_4.1, c_4.2, by omega⟩]; done) | (rw [bp_f (fun z => c_4 ⟨z.2.1, z.2.2.1⟩)]; done) | (rw [bp_f (fun z => c_18 ⟨z.1, by omega⟩)]; done)) (by rfl)
  · skip
    refine r_iload_n cd_M_isMan_7 rfl ?_
    refine r_iconst cd_M_isMan_8 ?_
    refine r_iload_n cd_M_isMan_9 rfl ?_
    refine r_cv1 cd_M_isMan_10 rfl ck_M_isMan_M_menOf rfl (Nat.le_of_ble_eq_true rfl) (sp_M_menOf c_4.1 c_4.2) ?_
    refine r_iconst cd_M_isMan_13 ?_
    refine r_isub cd_M_isMan_14 ?_
    refine r_cv3 cd_M_isMan_15 rfl ck_M_isMan_M_in rfl (Nat.le_of_ble_eq_true rfl) (sp_M_in hm ⟨by decide, by decide⟩ ⟨by have := hb c_4; omega, by have := hb c_4; omega⟩) ?_
    refine r_ifeq_p cd_M_isMan_18 (fun c_18 => ?_) (fun c_18 => ?_)
    · skip
      refine r_iconst cd_M_isMan_25 ?_
      exact r_zret cd_M_isMan_26 rt_M_isMan (by first | (rw [bp_t ⟨c_18.1, c_4.1, c_4.2, by omega⟩]; done) | (rw [bp_f (fun z => c_4 ⟨z.2.1, z.2.2.1⟩)]; done) | (rw [bp_f (fun z => c_18 ⟨z.1, by omega⟩)]; done)) (by rfl)
    · skip
      refine r_iconst cd_M_isMan_21 ?_
      refine r_goto cd_M_isMan_22 ?_
      exact r_zret cd_M_isMan_26 rt_M_isMan (by first | (rw [bp_t ⟨c_18.1, c_4.1, c_4.2, by omega⟩]; done) | (rw [bp_f (fun z => c_4 ⟨z.2.1, z.2.2.1⟩)]; done) | (rw [bp_f (fun z => c_18 ⟨z.1, by omega⟩)]; done)) (by rfl)
theorem lp_M_power {b n : Int} (n1 : n ≤ 100) : ∀ (k : Nat) (a i : Int), 0 ≤ i → i + k = n → Rn xs m_M_power 5 [vL b, vU, vI n, vL a, vU, vI i] [] h (some (vL (pwA b k a))) h := by
  intro k
  induction k with
  | zero =>
    intro a i i0 i1
    refine r_iload cd_M_power_5 rfl ?_
    refine r_iload_n cd_M_power_7 rfl ?_
    refine r_icmp_ge cd_M_power_8 ⟨by omega, by omega⟩ ⟨by omega, by omega⟩ (fun c_8 => ?_) (fun c_8 => ?_)
    · skip
      refine r_lload_n cd_M_power_21 rfl ?_
      exact r_lret cd_M_power_22 rt_M_power (by unfold pwA; rfl) (by rfl)
    · skip
      omega
  | succ k ih =>
    intro a i i0 i1
    have e9 := ih (a * b) (i + 1) (by omega) (by omega)
    refine r_iload cd_M_power_5 rfl ?_
    refine r_iload_n cd_M_power_7 rfl ?_
    refine r_icmp_ge cd_M_power_8 ⟨by omega, by omega⟩ ⟨by omega, by omega⟩ (fun c_8 => ?_) (fun c_8 => ?_)
    · skip
      omega
    · skip
      refine r_lload_n cd_M_power_11 rfl ?_
      refine r_lload_n cd_M_power_12 rfl ?_
      refine r_lmul cd_M_power_13 ?_
      refine r_lstoren6_3 cd_M_power_14 rfl ?_
      refine r_iinc6_5 cd_M_power_15 rfl ?_
      refine r_goto cd_M_power_18 ?_
      (unfold pwA; exact e9)
theorem sp_M_power {b n : Int} (n0 : 0 ≤ n) (n1 : n ≤ 100) : Sp xs m_M_power [vL b, vI n] h (some (vL (pwA b n.toNat 1))) h := by
  refine en_M_power ?_
  refine r_lconst1 cd_M_power_0 ?_
  refine r_lstoren6_3 cd_M_power_1 rfl ?_
  refine r_iconst cd_M_power_2 ?_
  refine r_istore6_5 cd_M_power_3 rfl ?_
  exact lp_M_power n1 n.toNat 1 0 (by omega) (by omega)
end C53
