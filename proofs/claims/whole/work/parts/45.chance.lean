-- contracts of Chances: powers, the divisor, a part
section C45
variable {xs : List Int} {h : MH}
theorem lcm_bd (x y : Int) : -1 ≤ lcm x y ∧ lcm x y ≤ 1 := by
  unfold lcm
  (repeat' split) <;> omega
theorem lcm_0 {x y : Int} : lcm x y = 0 ↔ x = y := by
  unfold lcm
  (repeat' split) <;> omega
def pwA (b : Int) : Nat → Int → Int
  | 0, a => a
  | k + 1, a => pwA b k (a * b)
theorem lp_power {b n : Int} (hb : inR b) (n1 : n ≤ 100) : ∀ (k : Nat) (a i : Int), 0 ≤ i → i + k = n → Rn xs m_Chances_power 5 [vI b, vI n, vL a, vU, vI i] [] h (some (vL (pwA b k a))) h := by
  intro k
  obtain ⟨b0, b1⟩ := hb
  induction k with
  | zero =>
    intro a i i0 i1
    refine r_iload cd_Chances_power_5 rfl ?_
    refine r_iload_n cd_Chances_power_7 rfl ?_
    refine r_icmp_ge cd_Chances_power_8 ⟨by omega, by omega⟩ ⟨by omega, by omega⟩ (fun c_8 => ?_) (fun c_8 => ?_)
    · skip
      refine r_lload_n cd_Chances_power_22 rfl ?_
      exact r_lret cd_Chances_power_23 rt_Chances_power (by unfold pwA; rfl) (by rfl)
    · skip
      omega
  | succ k ih =>
    intro a i i0 i1
    have e9 := ih (a * b) (i + 1) (by omega) (by omega)
    refine r_iload cd_Chances_power_5 rfl ?_
    refine r_iload_n cd_Chances_power_7 rfl ?_
    refine r_icmp_ge cd_Chances_power_8 ⟨by omega, by omega⟩ ⟨by omega, by omega⟩ (fun c_8 => ?_) (fun c_8 => ?_)
    · skip
      omega
    · skip
      refine r_lload_n cd_Chances_power_11 rfl ?_
      refine r_iload_n cd_Chances_power_12 rfl ?_
      refine r_i2l cd_Chances_power_13 ⟨by omega, by omega⟩ ?_
      refine r_lmul cd_Chances_power_14 ?_
      refine r_lstoren5_2 cd_Chances_power_15 rfl ?_
      refine r_iinc5_4 cd_Chances_power_16 rfl ?_
      refine r_goto cd_Chances_power_19 ?_
      (unfold pwA; exact e9)
theorem sp_power {b n : Int} (hb : inR b) (n0 : 0 ≤ n) (n1 : n ≤ 100) : Sp xs m_Chances_power [vI b, vI n] h (some (vL (pwA b n.toNat 1))) h := by
  refine en_Chances_power ?_
  refine r_lconst1 cd_Chances_power_0 ?_
  refine r_lstoren5_2 cd_Chances_power_1 rfl ?_
  refine r_iconst cd_Chances_power_2 ?_
  refine r_istore5_4 cd_Chances_power_3 rfl ?_
  exact lp_power hb n1 n.toNat 1 0 (by omega) (by omega)
def gcA : Nat → Int → Int → Int
  | 0, a, _ => a
  | f + 1, a, b => if b = 0 then a else gcA f b (a % b)
theorem gcA_bd {M : Int} : ∀ (f : Nat) (a b : Int), 0 ≤ a → a ≤ M → 0 ≤ b → b ≤ M → 0 ≤ gcA f a b ∧ gcA f a b ≤ M
  | 0, a, b, h0, h1, _, _ => ⟨h0, h1⟩
  | f + 1, a, b, h0, h1, h2, h3 => by
    unfold gcA
    split
    · exact ⟨h0, h1⟩
    · next z =>
      have r0 : 0 ≤ a % b := Int.emod_nonneg _ z
      have r1 : a % b < b := Int.emod_lt_of_pos _ (by omega)
      exact gcA_bd f b (a % b) h2 h3 r0 (by omega)
theorem lp_gcd {u l : Int} : ∀ (f : Nat) (a b i : Int) (x9 x10 : MV), 0 ≤ a → a ≤ 9000000000000000000 → 0 ≤ b → b ≤ 9000000000000000000 → 0 ≤ i → i + f = 200 → Rn xs m_Chances_commonDivisor 9 [vL u, vU, vL l, vU, vL a, vU, vL b, vU, vI i, x9, x10] [] h (some (vL (gcA f a b))) h := by
  intro f
  induction f with
  | zero =>
    intro a b i x9 x10 a0 a1 b0 b1 i0 i1
    refine r_iload cd_Chances_commonDivisor_9 rfl ?_
    refine r_sipush cd_Chances_commonDivisor_11 ?_
    refine r_icmp_ge cd_Chances_commonDivisor_14 ⟨by omega, by omega⟩ ⟨by decide, by decide⟩ (fun c_14 => ?_) (fun c_14 => ?_)
    · skip
      refine r_lload cd_Chances_commonDivisor_45 rfl ?_
      exact r_lret cd_Chances_commonDivisor_47 rt_Chances_commonDivisor (by unfold gcA; rfl) (by rfl)
    · skip
      omega
  | succ f ih =>
    intro a b i x9 x10 a0 a1 b0 b1 i0 i1
    have hl := lcm_bd b 0
    by_cases z : b = 0
    · skip
      have z2 : lcm b 0 = 0 := lcm_0.mpr z
      refine r_iload cd_Chances_commonDivisor_9 rfl ?_
      refine r_sipush cd_Chances_commonDivisor_11 ?_
      refine r_icmp_ge cd_Chances_commonDivisor_14 ⟨by omega, by omega⟩ ⟨by decide, by decide⟩ (fun c_14 => ?_) (fun c_14 => ?_)
      · skip
        refine r_lload cd_Chances_commonDivisor_45 rfl ?_
        exact r_lret cd_Chances_commonDivisor_47 rt_Chances_commonDivisor (by unfold gcA; rw [if_pos z]) (by rfl)
      · skip
        refine r_lload cd_Chances_commonDivisor_17 rfl ?_
        refine r_lconst0 cd_Chances_commonDivisor_19 ?_
        refine r_lcmp cd_Chances_commonDivisor_20 ⟨by omega, by omega⟩ ⟨by omega, by omega⟩ ?_
        refine r_if_eq cd_Chances_commonDivisor_21 ⟨by omega, by omega⟩ (fun c_21 => ?_) (fun c_21 => ?_)
        · skip
          refine r_lload cd_Chances_commonDivisor_45 rfl ?_
          exact r_lret cd_Chances_commonDivisor_47 rt_Chances_commonDivisor (by unfold gcA; rw [if_pos z]) (by rfl)
        · skip
          omega
    · skip
      have z2 : lcm b 0 ≠ 0 := fun y => z (lcm_0.mp y)
      have e1 : a.tmod b = a % b := Int.tmod_eq_emod_of_nonneg a0
      have r0 : 0 ≤ a % b := Int.emod_nonneg _ z
      have r1 : a % b < b := Int.emod_lt_of_pos _ (by omega)
      have e9 := fun x y => ih b (a % b) (i + 1) x y b0 b1 r0 (by omega) (by omega) (by omega)
      rw [← e1] at e9
      refine r_iload cd_Chances_commonDivisor_9 rfl ?_
      refine r_sipush cd_Chances_commonDivisor_11 ?_
      refine r_icmp_ge cd_Chances_commonDivisor_14 ⟨by omega, by omega⟩ ⟨by decide, by decide⟩ (fun c_14 => ?_) (fun c_14 => ?_)
      · skip
        omega
      · skip
        refine r_lload cd_Chances_commonDivisor_17 rfl ?_
        refine r_lconst0 cd_Chances_commonDivisor_19 ?_
        refine r_lcmp cd_Chances_commonDivisor_20 ⟨by omega, by omega⟩ ⟨by omega, by omega⟩ ?_
        refine r_if_eq cd_Chances_commonDivisor_21 ⟨by omega, by omega⟩ (fun c_21 => ?_) (fun c_21 => ?_)
        · skip
          omega
        · skip
          refine r_lload cd_Chances_commonDivisor_24 rfl ?_
          refine r_lload cd_Chances_commonDivisor_26 rfl ?_
          refine r_lrem cd_Chances_commonDivisor_28 ⟨by omega, by omega⟩ ⟨by omega, by omega⟩ (by omega) ?_
          refine r_lstore11_9 cd_Chances_commonDivisor_29 rfl ?_
          refine r_lload cd_Chances_commonDivisor_31 rfl ?_
          refine r_lstore11_4 cd_Chances_commonDivisor_33 rfl ?_
          refine r_lload cd_Chances_commonDivisor_35 rfl ?_
          refine r_lstore11_6 cd_Chances_commonDivisor_37 rfl ?_
          refine r_iinc11_8 cd_Chances_commonDivisor_39 rfl ?_
          refine r_goto cd_Chances_commonDivisor_42 ?_
          (unfold gcA; rw [if_neg z, ← e1]; exact e9 _ _)
theorem sp_gcd {u l : Int} (u0 : 0 ≤ u) (u1 : u ≤ 9000000000000000000) (l0 : 0 ≤ l) (l1 : l ≤ 9000000000000000000) : Sp xs m_Chances_commonDivisor [vL u, vL l] h (some (vL (gcA 200 l u))) h := by
  refine en_Chances_commonDivisor ?_
  refine r_lload_n cd_Chances_commonDivisor_0 rfl ?_
  refine r_lstore11_4 cd_Chances_commonDivisor_1 rfl ?_
  refine r_lload_n cd_Chances_commonDivisor_3 rfl ?_
  refine r_lstore11_6 cd_Chances_commonDivisor_4 rfl ?_
  refine r_iconst cd_Chances_commonDivisor_6 ?_
  refine r_istore11_8 cd_Chances_commonDivisor_7 rfl ?_
  exact lp_gcd 200 l u 0 vU vU l0 l1 u0 u1 (by omega) (by omega)
def prt (u l p : Int) : Int := if gcA 200 l u = 0 then 0 else (if p = 0 then u else l) / gcA 200 l u
theorem sp_part {u l p : Int} (u0 : 0 ≤ u) (u1 : u ≤ 9000000000000000000) (l0 : 0 ≤ l) (l1 : l ≤ 9000000000000000000) (p0 : p = 0 ∨ p = 1) : Sp xs m_Chances_part [vL u, vL l, vI p] h (some (vL (prt u l p))) h := by
  have hg := gcA_bd (M := 9000000000000000000) 200 l u l0 l1 u0 u1
  have hl := lcm_bd (gcA 200 l u) 0
  have e1 : u.tdiv (gcA 200 l u) = u / gcA 200 l u := Int.tdiv_eq_ediv_of_nonneg u0
  have e2 : l.tdiv (gcA 200 l u) = l / gcA 200 l u := Int.tdiv_eq_ediv_of_nonneg l0
  unfold prt
  by_cases z : gcA 200 l u = 0
  · skip
    have z2 : lcm (gcA 200 l u) 0 = 0 := lcm_0.mpr z
    rw [if_pos z]
    refine en_Chances_part ?_
    refine r_lload_n cd_Chances_part_0 rfl ?_
    refine r_lload_n cd_Chances_part_1 rfl ?_
    refine r_cv2 cd_Chances_part_2 rfl ck_Chances_part_Chances_commonDivisor rfl (Nat.le_of_ble_eq_true rfl) (sp_gcd u0 u1 l0 l1) ?_
    refine r_lstore7_5 cd_Chances_part_5 rfl ?_
    refine r_lload cd_Chances_part_7 rfl ?_
    refine r_lconst0 cd_Chances_part_9 ?_
    refine r_lcmp cd_Chances_part_10 ⟨by omega, by omega⟩ ⟨by omega, by omega⟩ ?_
    refine r_if_ne cd_Chances_part_11 ⟨by omega, by omega⟩ (fun c_11 => ?_) (fun c_11 => ?_)
    · skip
      omega
    · skip
      refine r_lconst0 cd_Chances_part_14 ?_
      exact r_lret cd_Chances_part_15 rt_Chances_part (by first | rfl | omega | (split <;> first | rfl | omega)) (by rfl)
  · skip
    have z2 : lcm (gcA 200 l u) 0 ≠ 0 := fun y => z (lcm_0.mp y)
    rw [if_neg z]
    refine en_Chances_part ?_
    refine r_lload_n cd_Chances_part_0 rfl ?_
    refine r_lload_n cd_Chances_part_1 rfl ?_
    refine r_cv2 cd_Chances_part_2 rfl ck_Chances_part_Chances_commonDivisor rfl (Nat.le_of_ble_eq_true rfl) (sp_gcd u0 u1 l0 l1) ?_
    refine r_lstore7_5 cd_Chances_part_5 rfl ?_
    refine r_lload cd_Chances_part_7 rfl ?_
    refine r_lconst0 cd_Chances_part_9 ?_
    refine r_lcmp cd_Chances_part_10 ⟨by omega, by omega⟩ ⟨by omega, by omega⟩ ?_
    refine r_if_ne cd_Chances_part_11 ⟨by omega, by omega⟩ (fun c_11 => ?_) (fun c_11 => ?_)
    · skip
      refine r_iload cd_Chances_part_16 rfl ?_
      refine r_if_ne cd_Chances_part_18 ⟨by omega, by omega⟩ (fun c_18 => ?_) (fun c_18 => ?_)
      · skip
        refine r_lload_n cd_Chances_part_25 rfl ?_
        refine r_lload cd_Chances_part_26 rfl ?_
        refine r_ldiv cd_Chances_part_28 ⟨by omega, by omega⟩ ⟨by omega, by omega⟩ (by omega) ?_
        exact r_lret cd_Chances_part_29 rt_Chances_part (by first | (rw [if_pos c_18, e1]; done) | (rw [if_neg c_18, e2]; done)) (by rfl)
      · skip
        refine r_lload_n cd_Chances_part_21 rfl ?_
        refine r_goto cd_Chances_part_22 ?_
        refine r_lload cd_Chances_part_26 rfl ?_
        refine r_ldiv cd_Chances_part_28 ⟨by omega, by omega⟩ ⟨by omega, by omega⟩ (by omega) ?_
        exact r_lret cd_Chances_part_29 rt_Chances_part (by first | (rw [if_pos c_18, e1]; done) | (rw [if_neg c_18, e2]; done)) (by rfl)
    · skip
      omega
end C45
