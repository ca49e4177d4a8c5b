-- the divisor: fuel is enough; the reference's lowest
section C54
variable {xs : List Int} {h : MH}
theorem gcA_gcd : ∀ (m f a b : Nat), b < 2 ^ m → 2 * m + 1 ≤ f → gcA f (a : Int) (b : Int) = ((Nat.gcd a b : Nat) : Int)
  | 0, f, a, b, hb, hf => by
    have : b = 0 := by rw [Nat.pow_zero] at hb; omega
    subst this
    obtain ⟨g, rfl⟩ : ∃ g, f = g + 1 := ⟨f - 1, by omega⟩
    unfold gcA
    rw [if_pos (show ((0 : Nat) : Int) = 0 from rfl), Nat.gcd_zero_right]
  | m + 1, f, a, b, hb, hf => by
    obtain ⟨g, rfl⟩ : ∃ g, f = g + 1 + 1 := ⟨f - 2, by omega⟩
    by_cases z : b = 0
    · subst z
      unfold gcA
      rw [if_pos (show ((0 : Nat) : Int) = 0 from rfl), Nat.gcd_zero_right]
    · have e1 : gcA (g + 1 + 1) (a : Int) (b : Int) = gcA (g + 1) (b : Int) ((a % b : Nat) : Int) := by
        conv => lhs; unfold gcA
        rw [if_neg (by omega), Int.natCast_emod]
      have e2 : Nat.gcd a b = Nat.gcd b (a % b) := by rw [Nat.gcd_comm a b, Nat.gcd_rec, Nat.gcd_comm]
      rw [e1, e2]
      by_cases y : a % b = 0
      · rw [y, Nat.gcd_zero_right]
        unfold gcA
        rw [if_pos (show ((0 : Nat) : Int) = 0 from rfl)]
      · have e3 : gcA (g + 1) (b : Int) ((a % b : Nat) : Int) = gcA g ((a % b : Nat) : Int) ((b % (a % b) : Nat) : Int) := by
          conv => lhs; unfold gcA
          rw [if_neg (by omega), Int.natCast_emod b]
        have e4 : Nat.gcd b (a % b) = Nat.gcd (a % b) (b % (a % b)) := by rw [Nat.gcd_comm b, Nat.gcd_rec, Nat.gcd_comm]
        rw [e3, e4]
        have l1 : a % b < b := Nat.mod_lt _ (by omega)
        have l2 : b % (a % b) < a % b := Nat.mod_lt _ (by omega)
        have l3 := Nat.mod_add_div b (a % b)
        have l4 : 1 ≤ b / (a % b) := Nat.div_pos (by omega) (by omega)
        have l5 : a % b * 1 ≤ a % b * (b / (a % b)) := Nat.mul_le_mul_left _ l4
        exact gcA_gcd m g (a % b) (b % (a % b)) (by rw [Nat.pow_succ] at hb; omega) (by omega)
theorem gcA_200 {a b : Int} (a0 : 0 ≤ a) (b0 : 0 ≤ b) (b1 : b ≤ 9000000000000000000) : gcA 200 a b = ((Nat.gcd a.toNat b.toNat : Nat) : Int) := by
  have := gcA_gcd 63 200 a.toNat b.toNat (by omega) (by omega)
  rwa [show ((a.toNat : Nat) : Int) = a by omega, show ((b.toNat : Nat) : Int) = b by omega] at this
theorem prt_gcd {u l p : Int} (u0 : 0 ≤ u) (u1 : u ≤ 9000000000000000000) (l0 : 0 < l) : prt u l p = (if p = 0 then u else l) / ((Nat.gcd u.toNat l.toNat : Nat) : Int) := by
  have e := gcA_200 (a := l) (b := u) (by omega) u0 u1
  have hg : 0 < Nat.gcd l.toNat u.toNat := Nat.gcd_pos_of_pos_left _ (by omega)
  unfold prt
  rw [e, if_neg (by omega), Nat.gcd_comm]
theorem lp_lowest {u l p : Int} {H' : MH} {r : Option MV} : ∀ (N : Nat) (a b : Nat) (x13 x14 : MV), b < N → a ≤ 9000000000000000000 → b ≤ 9000000000000000000 → (∀ (y z : MV) (b' : Int), Rn xs m_M_lowest 61 [vL u, vU, vL l, vU, vI p, vL u, vU, vL l, vU, vL ((Nat.gcd a b : Nat) : Int), vU, vL b', vU, y, z] [] h r H') → Rn xs m_M_lowest 36 [vL u, vU, vL l, vU, vI p, vL u, vU, vL l, vU, vL (a : Int), vU, vL (b : Int), vU, x13, x14] [] h r H' := by
  intro N
  induction N with
  | zero => intro a b x13 x14 hb; omega
  | succ N ih =>
    intro a b x13 x14 hb ha hb2 kk
    have hl := lcm_bd (b : Int) 0
    by_cases z : b = 0
    · skip
      subst z
      have z2 : lcm ((0 : Nat) : Int) 0 = 0 := lcm_0.mpr rfl
      rw [Nat.gcd_zero_right] at kk
      have e9 := kk x13 x14 ((0 : Nat) : Int)
      refine r_lload cd_M_lowest_36 rfl ?_
      refine r_lconst0 cd_M_lowest_38 ?_
      refine r_lcmp cd_M_lowest_39 ⟨by omega, by omega⟩ ⟨by omega, by omega⟩ ?_
      refine r_if_eq cd_M_lowest_40 ⟨by omega, by omega⟩ (fun c_40 => ?_) (fun c_40 => ?_)
      · skip
        exact e9
      · skip
        omega
    · skip
      have z2 : lcm (b : Int) 0 ≠ 0 := fun y => z (by have := lcm_0.mp y; omega)
      have e2 : Nat.gcd a b = Nat.gcd b (a % b) := by rw [Nat.gcd_comm a b, Nat.gcd_rec, Nat.gcd_comm]
      have l1 : a % b < b := Nat.mod_lt _ (by omega)
      have e1 : (a : Int).tmod (b : Int) = ((a % b : Nat) : Int) := by rw [Int.tmod_eq_emod_of_nonneg (by omega), Int.natCast_emod]
      rw [e2] at kk
      have e9 := fun x y => ih b (a % b) x y (by omega) hb2 (by omega) kk
      rw [← e1] at e9
      refine r_lload cd_M_lowest_36 rfl ?_
      refine r_lconst0 cd_M_lowest_38 ?_
      refine r_lcmp cd_M_lowest_39 ⟨by omega, by omega⟩ ⟨by omega, by omega⟩ ?_
      refine r_if_eq cd_M_lowest_40 ⟨by omega, by omega⟩ (fun c_40 => ?_) (fun c_40 => ?_)
      · skip
        omega
      · skip
        refine r_lload cd_M_lowest_43 rfl ?_
        refine r_lload cd_M_lowest_45 rfl ?_
        refine r_lrem cd_M_lowest_47 ⟨by omega, by omega⟩ ⟨by omega, by omega⟩ (by omega) ?_
        refine r_lstore15_13 cd_M_lowest_48 rfl ?_
        refine r_lload cd_M_lowest_50 rfl ?_
        refine r_lstore15_9 cd_M_lowest_52 rfl ?_
        refine r_lload cd_M_lowest_54 rfl ?_
        refine r_lstore15_11 cd_M_lowest_56 rfl ?_
        refine r_goto cd_M_lowest_58 ?_
        exact e9 _ _
theorem lcm_ge {x : Int} (h0 : 0 ≤ x) : 0 ≤ lcm x 0 := by
  unfold lcm
  (repeat' split) <;> omega
theorem sp_lowest {u l p : Int} (u0 : 0 ≤ u) (u1 : u ≤ 9000000000000000000) (l0 : 0 < l) (l1 : l ≤ 9000000000000000000) (p0 : p = 0 ∨ p = 1) : Sp xs m_M_lowest [vL u, vL l, vI p] h (some (vL (prt u l p))) h := by
  have e0 := prt_gcd (p := p) u0 u1 l0
  obtain ⟨U, rfl⟩ := Int.eq_ofNat_of_zero_le u0
  obtain ⟨L, rfl⟩ := Int.eq_ofNat_of_zero_le (Int.le_of_lt l0)
  rw [show ((U : Int)).toNat = U by omega, show ((L : Int)).toNat = L by omega] at e0
  have hg : 0 < Nat.gcd U L := Nat.gcd_pos_of_pos_right _ (by omega)
  have hg2 : Nat.gcd U L ≤ L := Nat.gcd_le_right _ (by omega)
  have e1 : (U : Int).tdiv ((Nat.gcd U L : Nat) : Int) = (U : Int) / ((Nat.gcd U L : Nat) : Int) := Int.tdiv_eq_ediv_of_nonneg (by omega)
  have e2 : (L : Int).tdiv ((Nat.gcd U L : Nat) : Int) = (L : Int) / ((Nat.gcd U L : Nat) : Int) := Int.tdiv_eq_ediv_of_nonneg (by omega)
  have b1 := lcm_bd (U : Int) 0
  have b2 := lcm_bd (L : Int) 0
  have g1 := lcm_ge u0
  have g2 := lcm_ge (Int.le_of_lt l0)
  have kk : ∀ (y z : MV) (b' : Int), Rn xs m_M_lowest 61 [vL (U : Int), vU, vL (L : Int), vU, vI p, vL (U : Int), vU, vL (L : Int), vU, vL ((Nat.gcd U L : Nat) : Int), vU, vL b', vU, y, z] [] h (some (vL (prt U L p))) h := by
    intro y z b'
    rw [e0]
    refine r_iload cd_M_lowest_61 rfl ?_
    refine r_if_ne cd_M_lowest_63 ⟨by omega, by omega⟩ (fun c_63 => ?_) (fun c_63 => ?_)
    · skip
      refine r_lload cd_M_lowest_74 rfl ?_
      refine r_lload cd_M_lowest_76 rfl ?_
      refine r_ldiv cd_M_lowest_78 ⟨by omega, by omega⟩ ⟨by omega, by omega⟩ (by omega) ?_
      exact r_lret cd_M_lowest_79 rt_M_lowest (by first | (rw [if_pos c_63, e1]; done) | (rw [if_neg c_63, e2]; done)) (by rfl)
    · skip
      refine r_lload cd_M_lowest_66 rfl ?_
      refine r_lload cd_M_lowest_68 rfl ?_
      refine r_ldiv cd_M_lowest_70 ⟨by omega, by omega⟩ ⟨by omega, by omega⟩ (by omega) ?_
      refine r_goto cd_M_lowest_71 ?_
      exact r_lret cd_M_lowest_79 rt_M_lowest (by first | (rw [if_pos c_63, e1]; done) | (rw [if_neg c_63, e2]; done)) (by rfl)
  refine en_M_lowest ?_
  refine r_lload_n cd_M_lowest_0 rfl ?_
  refine r_lconst0 cd_M_lowest_1 ?_
  refine r_lcmp cd_M_lowest_2 ⟨by omega, by omega⟩ ⟨by omega, by omega⟩ ?_
  refine r_if_ge cd_M_lowest_3 ⟨by omega, by omega⟩ (fun c_3 => ?_) (fun c_3 => ?_)
  · skip
    refine r_lload_n cd_M_lowest_11 rfl ?_
    refine r_lstore15_5 cd_M_lowest_12 rfl ?_
    refine r_lload_n cd_M_lowest_14 rfl ?_
    refine r_lconst0 cd_M_lowest_15 ?_
    refine r_lcmp cd_M_lowest_16 ⟨by omega, by omega⟩ ⟨by omega, by omega⟩ ?_
    refine r_if_ge cd_M_lowest_17 ⟨by omega, by omega⟩ (fun c_17 => ?_) (fun c_17 => ?_)
    · skip
      refine r_lload_n cd_M_lowest_25 rfl ?_
      refine r_lstore15_7 cd_M_lowest_26 rfl ?_
      refine r_lload cd_M_lowest_28 rfl ?_
      refine r_lstore15_9 cd_M_lowest_30 rfl ?_
      refine r_lload cd_M_lowest_32 rfl ?_
      refine r_lstore15_11 cd_M_lowest_34 rfl ?_
      exact lp_lowest (L + 1) U L vU vU (by omega) (by omega) (by omega) kk
    · skip
      omega
  · skip
    omega
end C54
