-- the count of bits of numbers below 2^19
section C43
variable {xs : List Int} {h : MH}
theorem bUsh_k {a k : Nat} (ha : a < 2147483648) (hk : k < 32) : bUsh (a : Int) (k : Int) = ((a / 2 ^ k : Nat) : Int) := by
  have h5 : (Int32.ofInt (a : Int)).toUInt32.toBitVec = BitVec.ofNat 32 a := o32 ha
  have h6 : (Int32.ofInt (k : Int)).toUInt32.toBitVec = BitVec.ofNat 32 k := o32 (by omega)
  unfold bUsh
  rw [← Int32.toInt_toBitVec]
  show ((Int32.ofInt (a : Int)).toUInt32 >>> ((Int32.ofInt (k : Int)).toUInt32 &&& 31)).toBitVec.toInt = _
  rw [UInt32.toBitVec_shiftRight, UInt32.toBitVec_and, h5, h6]
  have e1 : (BitVec.ofNat 32 k &&& (31 : UInt32).toBitVec) % 32 = BitVec.ofNat 32 k := by
    apply BitVec.eq_of_toNat_eq
    rw [BitVec.toNat_umod, BitVec.toNat_and, BitVec.toNat_ofNat]
    show ((k % 2 ^ 32) &&& 31) % 32 = _
    rw [show (31 : Nat) = 2 ^ 5 - 1 by rfl, Nat.and_two_pow_sub_one_eq_mod]
    omega
  rw [e1, BitVec.ushiftRight_eq', BitVec.toNat_ofNat, Nat.mod_eq_of_lt (by omega : k < 2 ^ 32)]
  have e2 : (BitVec.ofNat 32 a >>> k) = BitVec.ofNat 32 (a / 2 ^ k) := by
    apply BitVec.eq_of_toNat_eq
    rw [BitVec.toNat_ushiftRight, BitVec.toNat_ofNat, BitVec.toNat_ofNat, Nat.shiftRight_eq_div_pow, Nat.mod_eq_of_lt (by omega)]
    rw [Nat.mod_eq_of_lt]
    exact Nat.lt_of_le_of_lt (Nat.div_le_self _ _) (by omega)
  rw [e2]
  exact t32 (Nat.lt_of_le_of_lt (Nat.div_le_self _ _) ha)
theorem and256 {u v m m' : Nat} (hu : u < 256) (hm : m < 256) : (u + 256 * v) &&& (m + 256 * m') = (u &&& m) + 256 * (v &&& m') := by
  have h1 := Nat.and_mod_two_pow (a := u + 256 * v) (b := m + 256 * m') (n := 8)
  have h2 := Nat.and_div_two_pow (a := u + 256 * v) (b := m + 256 * m') (n := 8)
  rw [show (2 : Nat) ^ 8 = 256 by rfl] at h1 h2
  rw [show (u + 256 * v) % 256 = u by omega, show (m + 256 * m') % 256 = m by omega] at h1
  rw [show (u + 256 * v) / 256 = v by omega, show (m + 256 * m') / 256 = m' by omega] at h2
  have h3 := Nat.mod_add_div ((u + 256 * v) &&& (m + 256 * m')) 256
  rw [h1, h2] at h3
  exact h3.symm
theorem and3 {u v z m : Nat} (hu : u < 256) (hv : v < 256) (hm : m < 256) {M : Nat} : (u + 256 * v + 65536 * z) &&& (m + 256 * m + 65536 * M) = (u &&& m) + 256 * (v &&& m) + 65536 * (z &&& M) := by
  have e1 : u + 256 * v + 65536 * z = u + 256 * (v + 256 * z) := by omega
  have e2 : m + 256 * m + 65536 * M = m + 256 * (m + 256 * M) := by omega
  rw [e1, e2, and256 hu hm, and256 hv hm]
  omega
def f1 (y : Nat) : Nat := y - ((y / 2) &&& 85)
def f2 (y : Nat) : Nat := (y &&& 51) + ((y / 4) &&& 51)
def f3 (y : Nat) : Nat := (y + y / 16) &&& 15
theorem k1 : ∀ a : Nat, a < 256 → ∀ r : Nat, r < 2 → (a / 2 + 128 * r) &&& 85 = (a / 2) &&& 85 ∧ ((a / 2) &&& 85) ≤ a ∧ f1 a < 256 := by decide +kernel
theorem k2 : ∀ a : Nat, a < 256 → ∀ r : Nat, r < 4 → (a / 4 + 64 * r) &&& 51 = (a / 4) &&& 51 := by decide +kernel
def pc8 (a : Nat) : Nat := a % 2 + a / 2 % 2 + a / 4 % 2 + a / 8 % 2 + a / 16 % 2 + a / 32 % 2 + a / 64 % 2 + a / 128 % 2
theorem k3 : ∀ a : Nat, a < 256 → f2 (f1 a) ≤ 68 ∧ f2 (f1 a) % 16 ≤ 4 ∧ f2 (f1 a) / 16 ≤ 4 ∧ f3 (f2 (f1 a)) ≤ 8 ∧ f3 (f2 (f1 a)) = pc8 a := by decide +kernel
theorem k4 : ∀ a : Nat, a < 70 → ∀ r : Nat, r < 5 → (a + a / 16 + 16 * r) &&& 15 = (a + a / 16) &&& 15 := by decide +kernel
def bsm (x : Nat) : Nat := pc8 (x % 256) + pc8 (x / 256 % 256) + pc8 (x / 65536)
theorem c8 : ∀ c : Nat, c < 8 → (c / 2) &&& 21845 = (c / 2) &&& 85 ∧ f1 c < 8 := by decide +kernel
theorem c9 : ∀ c : Nat, c < 8 → (c &&& 13107) = (c &&& 51) ∧ ((c / 4) &&& 13107) = ((c / 4) &&& 51) := by decide +kernel
theorem c10 : ∀ c : Nat, c < 70 → (c + c / 16) &&& 3855 = (c + c / 16) &&& 15 := by decide +kernel
theorem s1_k {a b c : Nat} (ha : a < 256) (hb : b < 256) (hc : c < 8) : ((a + 256 * b + 65536 * c) / 2) &&& 1431655765 = ((a / 2) &&& 85) + 256 * ((b / 2) &&& 85) + 65536 * ((c / 2) &&& 85) := by
  rw [show (a + 256 * b + 65536 * c) / 2 = (a / 2 + 128 * (b % 2)) + 256 * (b / 2 + 128 * (c % 2)) + 65536 * (c / 2) by omega]
  rw [show (1431655765 : Nat) = 85 + 256 * 85 + 65536 * 21845 by rfl, and3 (by omega) (by omega) (by omega), (k1 a ha (b % 2) (by omega)).1, (k1 b hb (c % 2) (by omega)).1, (c8 c hc).1]
theorem s2_k {a b c : Nat} (ha : a < 256) (hb : b < 256) (hc : c < 8) : ((a + 256 * b + 65536 * c) &&& 858993459) + (((a + 256 * b + 65536 * c) / 4) &&& 858993459) = f2 a + 256 * f2 b + 65536 * f2 c := by
  have e1 : (a + 256 * b + 65536 * c) / 4 = (a / 4 + 64 * (b % 4)) + 256 * (b / 4 + 64 * (c % 4)) + 65536 * (c / 4) := by omega
  have e2 : ((a + 256 * b + 65536 * c) &&& 858993459) = (a &&& 51) + 256 * (b &&& 51) + 65536 * (c &&& 51) := by
    rw [show (858993459 : Nat) = 51 + 256 * 51 + 65536 * 13107 by rfl, and3 ha hb (by omega), (c9 c hc).1]
  have e3 : (((a + 256 * b + 65536 * c) / 4) &&& 858993459) = ((a / 4) &&& 51) + 256 * ((b / 4) &&& 51) + 65536 * ((c / 4) &&& 51) := by
    rw [e1, show (858993459 : Nat) = 51 + 256 * 51 + 65536 * 13107 by rfl, and3 (by omega) (by omega) (by omega), k2 a ha (b % 4) (by omega), k2 b hb (c % 4) (by omega), (c9 c hc).2]
  rw [e2, e3]
  unfold f2
  omega
theorem s3_k {a b c : Nat} (ha : a ≤ 68) (hb : b ≤ 68) (hc : c ≤ 68) (hb2 : b % 16 ≤ 4) (hc2 : c % 16 ≤ 4) : ((a + 256 * b + 65536 * c) + (a + 256 * b + 65536 * c) / 16) &&& 252645135 = f3 a + 256 * f3 b + 65536 * f3 c := by
  rw [show (a + 256 * b + 65536 * c) + (a + 256 * b + 65536 * c) / 16 = (a + a / 16 + 16 * (b % 16)) + 256 * (b + b / 16 + 16 * (c % 16)) + 65536 * (c + c / 16) by omega]
  rw [show (252645135 : Nat) = 15 + 256 * 15 + 65536 * 3855 by rfl, and3 (by omega) (by omega) (by omega), k4 a (by omega) (b % 16) (by omega), k4 b (by omega) (c % 16) (by omega), c10 c (by omega)]
  rfl
theorem bit_sum {x : Nat} (hx : x < 524288) : ∃ s1 s2 s3 s4 s5 : Nat, ((x / 2) &&& 1431655765) ≤ x ∧ s1 = x - ((x / 2) &&& 1431655765) ∧ s2 = (s1 &&& 858993459) + ((s1 / 4) &&& 858993459) ∧ s3 = (s2 + s2 / 16) &&& 252645135 ∧ s4 = s3 + s3 / 256 ∧ s5 = s4 + s4 / 65536 ∧ s5 &&& 63 = bsm x ∧ s1 < 16777216 ∧ s2 < 16777216 ∧ s3 < 16777216 ∧ s4 < 16777216 ∧ s5 < 16777216 := by
  obtain ⟨a, b, c, ha, hb, hc, e⟩ : ∃ a b c : Nat, a < 256 ∧ b < 256 ∧ c < 8 ∧ x = a + 256 * b + 65536 * c := ⟨x % 256, x / 256 % 256, x / 65536, by omega, by omega, by omega, by omega⟩
  have a1 := k1 a ha 0 (by omega)
  have b1 := k1 b hb 0 (by omega)
  have c1 := k1 c (by omega) 0 (by omega)
  have a3 := k3 a ha
  have b3 := k3 b hb
  have c3 := k3 c (by omega)
  have q1 := s1_k ha hb hc
  have e1 : x - ((x / 2) &&& 1431655765) = f1 a + 256 * f1 b + 65536 * f1 c := by
    rw [e, q1]
    unfold f1
    omega
  have e2 := s2_k a1.2.2 b1.2.2 (c8 c hc).2
  have e3 := s3_k a3.1 b3.1 c3.1 b3.2.1 c3.2.1
  refine ⟨_, _, _, _, _, ?_, rfl, rfl, rfl, rfl, rfl, ?_, ?_, ?_, ?_, ?_, ?_⟩
  · rw [e, q1]; omega
  · rw [e1, e2, e3, show (63 : Nat) = 2 ^ 6 - 1 by rfl, Nat.and_two_pow_sub_one_eq_mod]
    have w1 : x % 256 = a := by omega
    have w2 : x / 256 % 256 = b := by omega
    have w3 : x / 65536 = c := by omega
    unfold bsm
    rw [w1, w2, w3, ← a3.2.2.2.2, ← b3.2.2.2.2, ← c3.2.2.2.2]
    have z1 := a3.2.2.2.1
    have z2 := b3.2.2.2.1
    have z3 := c3.2.2.2.1
    generalize f3 (f2 (f1 a)) = P at z1 ⊢
    generalize f3 (f2 (f1 b)) = Q at z2 ⊢
    generalize f3 (f2 (f1 c)) = R at z3 ⊢
    clear a1 b1 c1 a3 b3 c3 q1 e1 e2 e3 w1 w2 w3 e
    rw [show (P + 256 * Q + 65536 * R) / 256 = Q + 256 * R by omega]
    rw [show (P + 256 * Q + 65536 * R + (Q + 256 * R)) / 65536 = R by omega]
    rw [show P + 256 * Q + 65536 * R + (Q + 256 * R) + R = (P + Q + R) + 64 * (4 * Q + 1024 * R + 4 * R) by omega]
    rw [Nat.add_mul_mod_self_left]
    omega
  · rw [e1]; have := (c8 c hc).2; omega
  · rw [e1, e2]; omega
  · rw [e1, e2, e3]; omega
  · rw [e1, e2, e3]; omega
  · rw [e1, e2, e3]; omega
theorem sp_bitCount {x : Nat} (hx : x < 524288) : Sp xs m_Integer_bitCount [vI (x : Int)] h (some (vI ((bsm x : Nat) : Int))) h := by
  obtain ⟨s1, s2, s3, s4, s5, l0, d1, d2, d3, d4, d5, d6, l1, l2, l3, l4, l5⟩ := bit_sum hx
  have E1 : (x : Int) - bAnd (bUsh (x : Int) 1) 1431655765 = (s1 : Int) := by
    have u : bUsh (x : Int) 1 = ((x / 2 : Nat) : Int) := bUsh_k (k := 1) (by omega) (by omega)
    have v : bAnd ((x / 2 : Nat) : Int) 1431655765 = (((x / 2) &&& 1431655765 : Nat) : Int) := bAnd_nat (b := 1431655765) (by omega) (by omega)
    rw [u, v, d1]
    omega
  have E2 : bAnd (s1 : Int) 858993459 + bAnd (bUsh (s1 : Int) 2) 858993459 = (s2 : Int) := by
    have u : bUsh (s1 : Int) 2 = ((s1 / 4 : Nat) : Int) := bUsh_k (k := 2) (by omega) (by omega)
    have v : bAnd ((s1 / 4 : Nat) : Int) 858993459 = (((s1 / 4) &&& 858993459 : Nat) : Int) := bAnd_nat (b := 858993459) (by omega) (by omega)
    have v2 : bAnd (s1 : Int) 858993459 = ((s1 &&& 858993459 : Nat) : Int) := bAnd_nat (b := 858993459) (by omega) (by omega)
    rw [u, v, v2, d2]
    omega
  have E3 : bAnd ((s2 : Int) + bUsh (s2 : Int) 4) 252645135 = (s3 : Int) := by
    have u : bUsh (s2 : Int) 4 = ((s2 / 16 : Nat) : Int) := bUsh_k (k := 4) (by omega) (by omega)
    have v : bAnd ((s2 + s2 / 16 : Nat) : Int) 252645135 = (((s2 + s2 / 16) &&& 252645135 : Nat) : Int) := bAnd_nat (b := 252645135) (by omega) (by omega)
    rw [u, ← Int.natCast_add, v, d3]
  have E4 : (s3 : Int) + bUsh (s3 : Int) 8 = (s4 : Int) := by
    have u : bUsh (s3 : Int) 8 = ((s3 / 256 : Nat) : Int) := bUsh_k (k := 8) (by omega) (by omega)
    rw [u, d4]
    omega
  have E5 : (s4 : Int) + bUsh (s4 : Int) 16 = (s5 : Int) := by
    have u : bUsh (s4 : Int) 16 = ((s4 / 65536 : Nat) : Int) := bUsh_k (k := 16) (by omega) (by omega)
    rw [u, d5]
    omega
  have E6 : bAnd (s5 : Int) 63 = ((bsm x : Nat) : Int) := by
    have v : bAnd (s5 : Int) 63 = ((s5 &&& 63 : Nat) : Int) := bAnd_nat (b := 63) (by omega) (by omega)
    rw [v, d6]
  clear d1 d2 d3 d4 d5 d6
  have t5 : Rn xs m_Integer_bitCount 48 [vI (s5 : Int)] [] h (some (vI ((bsm x : Nat) : Int))) h := by
    refine r_iload_n cd_Integer_bitCount_48 rfl ?_
    refine r_bipush cd_Integer_bitCount_49 ?_
    refine r_iand cd_Integer_bitCount_51 ?_
    exact r_iret cd_Integer_bitCount_52 rt_Integer_bitCount (by exact E6) (by rfl)
  have t4 : Rn xs m_Integer_bitCount 41 [vI (s4 : Int)] [] h (some (vI ((bsm x : Nat) : Int))) h := by
    refine r_iload_n cd_Integer_bitCount_41 rfl ?_
    refine r_iload_n cd_Integer_bitCount_42 rfl ?_
    refine r_bipush cd_Integer_bitCount_43 ?_
    refine r_iushr cd_Integer_bitCount_45 ?_
    refine r_iadd cd_Integer_bitCount_46 ?_
    refine r_istoren1_0 cd_Integer_bitCount_47 ?_
    rw [E5]; exact t5
  have t3 : Rn xs m_Integer_bitCount 34 [vI (s3 : Int)] [] h (some (vI ((bsm x : Nat) : Int))) h := by
    refine r_iload_n cd_Integer_bitCount_34 rfl ?_
    refine r_iload_n cd_Integer_bitCount_35 rfl ?_
    refine r_bipush cd_Integer_bitCount_36 ?_
    refine r_iushr cd_Integer_bitCount_38 ?_
    refine r_iadd cd_Integer_bitCount_39 ?_
    refine r_istoren1_0 cd_Integer_bitCount_40 ?_
    rw [E4]; exact t4
  have t2 : Rn xs m_Integer_bitCount 24 [vI (s2 : Int)] [] h (some (vI ((bsm x : Nat) : Int))) h := by
    refine r_iload_n cd_Integer_bitCount_24 rfl ?_
    refine r_iload_n cd_Integer_bitCount_25 rfl ?_
    refine r_iconst cd_Integer_bitCount_26 ?_
    refine r_iushr cd_Integer_bitCount_27 ?_
    refine r_iadd cd_Integer_bitCount_28 ?_
    refine r_ldc_w cd_Integer_bitCount_29 ?_
    refine r_iand cd_Integer_bitCount_32 ?_
    refine r_istoren1_0 cd_Integer_bitCount_33 ?_
    rw [E3]; exact t3
  have t1 : Rn xs m_Integer_bitCount 10 [vI (s1 : Int)] [] h (some (vI ((bsm x : Nat) : Int))) h := by
    refine r_iload_n cd_Integer_bitCount_10 rfl ?_
    refine r_ldc_w cd_Integer_bitCount_11 ?_
    refine r_iand cd_Integer_bitCount_14 ?_
    refine r_iload_n cd_Integer_bitCount_15 rfl ?_
    refine r_iconst cd_Integer_bitCount_16 ?_
    refine r_iushr cd_Integer_bitCount_17 ?_
    refine r_ldc_w cd_Integer_bitCount_18 ?_
    refine r_iand cd_Integer_bitCount_21 ?_
    refine r_iadd cd_Integer_bitCount_22 ?_
    refine r_istoren1_0 cd_Integer_bitCount_23 ?_
    rw [E2]; exact t2
  refine en_Integer_bitCount ?_
  refine r_iload_n cd_Integer_bitCount_0 rfl ?_
  refine r_iload_n cd_Integer_bitCount_1 rfl ?_
  refine r_iconst cd_Integer_bitCount_2 ?_
  refine r_iushr cd_Integer_bitCount_3 ?_
  refine r_ldc_w cd_Integer_bitCount_4 ?_
  refine r_iand cd_Integer_bitCount_7 ?_
  refine r_isub cd_Integer_bitCount_8 ?_
  refine r_istoren1_0 cd_Integer_bitCount_9 ?_
  rw [E1]; exact t1
end C43
