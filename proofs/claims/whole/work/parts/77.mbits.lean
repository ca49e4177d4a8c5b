-- the reference: counting bits; hands, the tables
section C77
variable {xs : List Int} {h : MH}
theorem sm_k : ∀ k : Nat, k < 32 → (BitVec.ofNat 32 k &&& 31#32).smod 32#32 = BitVec.ofNat 32 k := by decide +kernel
theorem bShr_k {a k : Nat} (ha : a < 2147483648) (hk : k < 32) : bShr (a : Int) (k : Int) = ((a / 2 ^ k : Nat) : Int) := by
  unfold bShr
  rw [← Int32.toInt_toBitVec, Int32.toBitVec_shiftRight, Int32.toBitVec_and, o32 ha, o32 (by omega)]
  have e : ((BitVec.ofNat 32 k &&& (31 : Int32).toBitVec).smod 32) = BitVec.ofNat 32 k := sm_k k hk
  rw [e, BitVec.toInt_sshiftRight', t32 ha, BitVec.toNat_ofNat, Nat.mod_eq_of_lt (by omega : k < 2 ^ 32), Int.shiftRight_eq_div_pow]
  rfl
theorem and1_k {a : Nat} (ha : a < 2147483648) : bAnd (a : Int) 1 = ((a % 2 : Nat) : Int) := by
  have := bAnd_nat (a := a) (b := 1) ha (by decide)
  rw [Nat.and_one_is_mod] at this
  exact this
def bsP (n : Nat) : Nat → Nat
  | 0 => 0
  | k + 1 => bsP n k + n / 2 ^ k % 2
theorem qb_0 (n : Nat) : n / 2 ^ 0 % 2 = n % 256 % 2 := by omega
theorem qb_1 (n : Nat) : n / 2 ^ 1 % 2 = n % 256 / 2 % 2 := by omega
theorem qb_2 (n : Nat) : n / 2 ^ 2 % 2 = n % 256 / 4 % 2 := by omega
theorem qb_3 (n : Nat) : n / 2 ^ 3 % 2 = n % 256 / 8 % 2 := by omega
theorem qb_4 (n : Nat) : n / 2 ^ 4 % 2 = n % 256 / 16 % 2 := by omega
theorem qb_5 (n : Nat) : n / 2 ^ 5 % 2 = n % 256 / 32 % 2 := by omega
theorem qb_6 (n : Nat) : n / 2 ^ 6 % 2 = n % 256 / 64 % 2 := by omega
theorem qb_7 (n : Nat) : n / 2 ^ 7 % 2 = n % 256 / 128 % 2 := by omega
theorem qb_8 (n : Nat) : n / 2 ^ 8 % 2 = n / 256 % 256 % 2 := by omega
theorem qb_9 (n : Nat) : n / 2 ^ 9 % 2 = n / 256 % 256 / 2 % 2 := by omega
theorem qb_10 (n : Nat) : n / 2 ^ 10 % 2 = n / 256 % 256 / 4 % 2 := by omega
theorem qb_11 (n : Nat) : n / 2 ^ 11 % 2 = n / 256 % 256 / 8 % 2 := by omega
theorem qb_12 (n : Nat) : n / 2 ^ 12 % 2 = n / 256 % 256 / 16 % 2 := by omega
theorem qb_13 (n : Nat) : n / 2 ^ 13 % 2 = n / 256 % 256 / 32 % 2 := by omega
theorem qb_14 (n : Nat) : n / 2 ^ 14 % 2 = n / 256 % 256 / 64 % 2 := by omega
theorem qb_15 (n : Nat) : n / 2 ^ 15 % 2 = n / 256 % 256 / 128 % 2 := by omega
theorem qb_16 (n : Nat) : n / 2 ^ 16 % 2 = n / 65536 % 2 := by omega
theorem qb_17 (n : Nat) : n / 2 ^ 17 % 2 = n / 65536 / 2 % 2 := by omega
theorem qb_18 (n : Nat) : n / 2 ^ 18 % 2 = n / 65536 / 4 % 2 := by omega
theorem qz_3 {n : Nat} (hn : n < 524288) : n / 65536 / 8 % 2 = 0 := by omega
theorem qz_4 {n : Nat} (hn : n < 524288) : n / 65536 / 16 % 2 = 0 := by omega
theorem qz_5 {n : Nat} (hn : n < 524288) : n / 65536 / 32 % 2 = 0 := by omega
theorem qz_6 {n : Nat} (hn : n < 524288) : n / 65536 / 64 % 2 = 0 := by omega
theorem qz_7 {n : Nat} (hn : n < 524288) : n / 65536 / 128 % 2 = 0 := by omega
theorem bsP_19 {n : Nat} (hn : n < 524288) : bsP n 19 = bsm n := by
  have e : bsP n 19 = 0 + n / 2 ^ 0 % 2 + n / 2 ^ 1 % 2 + n / 2 ^ 2 % 2 + n / 2 ^ 3 % 2 + n / 2 ^ 4 % 2 + n / 2 ^ 5 % 2 + n / 2 ^ 6 % 2 + n / 2 ^ 7 % 2 + n / 2 ^ 8 % 2 + n / 2 ^ 9 % 2 + n / 2 ^ 10 % 2 + n / 2 ^ 11 % 2 + n / 2 ^ 12 % 2 + n / 2 ^ 13 % 2 + n / 2 ^ 14 % 2 + n / 2 ^ 15 % 2 + n / 2 ^ 16 % 2 + n / 2 ^ 17 % 2 + n / 2 ^ 18 % 2 := rfl
  rw [e, qb_0, qb_1, qb_2, qb_3, qb_4, qb_5, qb_6, qb_7, qb_8, qb_9, qb_10, qb_11, qb_12, qb_13, qb_14, qb_15, qb_16, qb_17, qb_18]
  unfold bsm pc8
  rw [qz_3 hn, qz_4 hn, qz_5 hn, qz_6 hn, qz_7 hn]
  simp only [Nat.add_assoc, Nat.zero_add, Nat.add_zero]
theorem lp_M_bits {n : Nat} (hn : n < 524288) : ∀ (k i : Nat), i + k = 19 → Rn xs m_M_bits 4 [vI (n : Int), vI (bsP n i : Nat), vI (i : Int)] [] h (some (vI (bsP n 19 : Nat))) h := by
  intro k
  induction k with
  | zero =>
    intro i h1
    have : i = 19 := by omega
    subst this
    refine r_iload_n cd_M_bits_4 rfl ?_
    refine r_bipush cd_M_bits_5 ?_
    refine r_icmp_ge cd_M_bits_7 ⟨by omega, by omega⟩ ⟨by decide, by decide⟩ (fun c_7 => ?_) (fun c_7 => ?_)
    · skip
      refine r_iload_n cd_M_bits_24 rfl ?_
      exact r_iret cd_M_bits_25 rt_M_bits (by first | rfl | omega | (split <;> first | rfl | omega)) (by rfl)
    · skip
      omega
  | succ k ih =>
    intro i h1
    have e9 := ih (i + 1) (by omega)
    have hd : n / 2 ^ i < 2147483648 := Nat.lt_of_le_of_lt (Nat.div_le_self _ _) (by omega)
    have e8 : (bsP n i : Nat) + bAnd (bShr (n : Int) (i : Int)) 1 = (bsP n (i + 1) : Nat) := by
      rw [bShr_k (by omega) (by omega), and1_k hd]
      show ((bsP n i : Nat) : Int) + ((n / 2 ^ i % 2 : Nat) : Int) = ((bsP n i + n / 2 ^ i % 2 : Nat) : Int)
      rw [Int.natCast_add]
    refine r_iload_n cd_M_bits_4 rfl ?_
    refine r_bipush cd_M_bits_5 ?_
    refine r_icmp_ge cd_M_bits_7 ⟨by omega, by omega⟩ ⟨by decide, by decide⟩ (fun c_7 => ?_) (fun c_7 => ?_)
    · skip
      omega
    · skip
      refine r_iload_n cd_M_bits_10 rfl ?_
      refine r_iload_n cd_M_bits_11 rfl ?_
      refine r_iload_n cd_M_bits_12 rfl ?_
      refine r_ishr cd_M_bits_13 ?_
      refine r_iconst cd_M_bits_14 ?_
      refine r_iand cd_M_bits_15 ?_
      refine r_iadd cd_M_bits_16 ?_
      refine r_istoren3_1 cd_M_bits_17 rfl ?_
      refine r_iinc3_2 cd_M_bits_18 rfl ?_
      refine r_goto cd_M_bits_21 ?_
      (rw [e8]; exact e9)
theorem sp_M_bits {n : Nat} (hn : n < 524288) : Sp xs m_M_bits [vI (n : Int)] h (some (vI (bsm n : Nat))) h := by
  have e9 := lp_M_bits (xs := xs) (h := h) hn 19 0 (by omega)
  rw [bsP_19 hn] at e9
  refine en_M_bits ?_
  refine r_iconst cd_M_bits_0 ?_
  refine r_istoren3_1 cd_M_bits_1 rfl ?_
  refine r_iconst cd_M_bits_2 ?_
  refine r_istoren3_2 cd_M_bits_3 rfl ?_
  exact e9
end C77
