-- whole numbers and the machine's
theorem n_ofTo (x : Int32) : Int32.ofInt x.toInt = x := by first | exact Int32.ofInt_toInt x | simp
theorem n_ofToL (x : Int64) : Int64.ofInt x.toInt = x := by first | exact Int64.ofInt_toInt x | simp
theorem n_toOf {z : Int} (h : inR z) : (Int32.ofInt z).toInt = z := by
  have h1 := h.1
  have h2 := h.2
  rw [Int32.toInt_ofInt]
  exact Int.bmod_eq_of_le (by show -((Int32.size : Int) / 2) ≤ z; simp [Int32.size]; omega) (by show z < ((Int32.size : Int) + 1) / 2; simp [Int32.size]; omega)
theorem n_toOfL {z : Int} (h : inL z) : (Int64.ofInt z).toInt = z := by
  have h1 := h.1
  have h2 := h.2
  rw [Int64.toInt_ofInt]
  exact Int.bmod_eq_of_le (by show -((Int64.size : Int) / 2) ≤ z; simp [Int64.size]; omega) (by show z < ((Int64.size : Int) + 1) / 2; simp [Int64.size]; omega)
theorem n_add (x y : Int) : Int32.ofInt (x + y) = Int32.ofInt x + Int32.ofInt y := by first | exact Int32.ofInt_add x y | exact Int32.ofInt_add .. | simp
theorem n_sub (x y : Int) : Int32.ofInt (x - y) = Int32.ofInt x - Int32.ofInt y := by first | exact Int32.ofInt_sub x y | exact Int32.ofInt_sub .. | simp
theorem n_mul (x y : Int) : Int32.ofInt (x * y) = Int32.ofInt x * Int32.ofInt y := by first | exact Int32.ofInt_mul x y | exact Int32.ofInt_mul .. | simp
theorem n_neg (x : Int) : Int32.ofInt (-x) = -Int32.ofInt x := by first | exact Int32.ofInt_neg x | exact Int32.ofInt_neg .. | simp
theorem n_addL (x y : Int) : Int64.ofInt (x + y) = Int64.ofInt x + Int64.ofInt y := by first | exact Int64.ofInt_add x y | exact Int64.ofInt_add .. | simp
theorem n_subL (x y : Int) : Int64.ofInt (x - y) = Int64.ofInt x - Int64.ofInt y := by first | exact Int64.ofInt_sub x y | exact Int64.ofInt_sub .. | simp
theorem n_mulL (x y : Int) : Int64.ofInt (x * y) = Int64.ofInt x * Int64.ofInt y := by first | exact Int64.ofInt_mul x y | exact Int64.ofInt_mul .. | simp
theorem n_negL (x : Int) : Int64.ofInt (-x) = -Int64.ofInt x := by first | exact Int64.ofInt_neg x | exact Int64.ofInt_neg .. | simp
theorem n_div {x y : Int} (hx : inR x) (hy : inR y) : Int32.ofInt (x.tdiv y) = Int32.ofInt x / Int32.ofInt y := by
  apply Int32.toInt_inj.mp
  rw [Int32.toInt_div, n_toOf hx, n_toOf hy, Int32.toInt_ofInt]
theorem n_divL {x y : Int} (hx : inL x) (hy : inL y) : Int64.ofInt (x.tdiv y) = Int64.ofInt x / Int64.ofInt y := by
  apply Int64.toInt_inj.mp
  rw [Int64.toInt_div, n_toOfL hx, n_toOfL hy, Int64.toInt_ofInt]
theorem n_mod {x y : Int} (hx : inR x) (hy : inR y) : Int32.ofInt (x.tmod y) = Int32.ofInt x - Int32.ofInt x / Int32.ofInt y * Int32.ofInt y := by
  rw [← n_div hx hy, ← n_mul, ← n_sub]
  congr 1
  have h := Int.mul_tdiv_add_tmod x y
  rw [Int.mul_comm] at h
  omega
theorem n_modL {x y : Int} (hx : inL x) (hy : inL y) : Int64.ofInt (x.tmod y) = Int64.ofInt x - Int64.ofInt x / Int64.ofInt y * Int64.ofInt y := by
  rw [← n_divL hx hy, ← n_mulL, ← n_subL]
  congr 1
  have h := Int.mul_tdiv_add_tmod x y
  rw [Int.mul_comm] at h
  omega
theorem n_lt {x y : Int} (hx : inR x) (hy : inR y) : Int32.ofInt x < Int32.ofInt y ↔ x < y := by rw [Int32.lt_iff_toInt_lt, n_toOf hx, n_toOf hy]
theorem n_le {x y : Int} (hx : inR x) (hy : inR y) : Int32.ofInt x ≤ Int32.ofInt y ↔ x ≤ y := by rw [Int32.le_iff_toInt_le, n_toOf hx, n_toOf hy]
theorem n_eq {x y : Int} (hx : inR x) (hy : inR y) : Int32.ofInt x = Int32.ofInt y ↔ x = y := by
  constructor
  · intro h
    have e := congrArg Int32.toInt h
    rwa [n_toOf hx, n_toOf hy] at e
  · intro h; rw [h]
theorem n_eqL {x y : Int} (hx : inL x) (hy : inL y) : Int64.ofInt x = Int64.ofInt y ↔ x = y := by
  constructor
  · intro h
    have e := congrArg Int64.toInt h
    rwa [n_toOfL hx, n_toOfL hy] at e
  · intro h; rw [h]
theorem n_ltL {x y : Int} (hx : inL x) (hy : inL y) : Int64.ofInt x < Int64.ofInt y ↔ x < y := by rw [Int64.lt_iff_toInt_lt, n_toOfL hx, n_toOfL hy]
theorem n_i2l {x : Int} (hx : inR x) : (Int32.ofInt x).toInt64 = Int64.ofInt x := by
  apply Int64.toInt_inj.mp
  rw [Int32.toInt_toInt64, n_toOf hx, n_toOfL]
  have h1 := hx.1
  have h2 := hx.2
  constructor <;> omega
theorem n_0 : (0 : Int32) = Int32.ofInt 0 := by decide
theorem n_nz {y : Int} (hy : inR y) (h : y ≠ 0) : ¬ Int32.ofInt y = 0 := by
  rw [n_0, n_eq hy (by constructor <;> decide)]
  exact h
theorem n_0L : (0 : Int64) = Int64.ofInt 0 := by decide
theorem n_nzL {y : Int} (hy : inL y) (h : y ≠ 0) : ¬ Int64.ofInt y = 0 := by
  rw [n_0L, n_eqL hy (by constructor <;> decide)]
  exact h
theorem n_byte : ∀ n : Int, -128 ≤ n ∧ n ≤ 127 → (Int8.ofInt n).toInt32 = Int32.ofInt n := by
  intro n h
  have key : ∀ k : Nat, k < 256 → (Int8.ofInt ((k : Int) - 128)).toInt32 = Int32.ofInt ((k : Int) - 128) := by decide +kernel
  have h1 := key (n + 128).toNat (by omega)
  rw [show (((n + 128).toNat : Nat) : Int) - 128 = n by omega] at h1
  exact h1
theorem n_short : ∀ n : Int, -32768 ≤ n ∧ n ≤ 32767 → (Int16.ofInt n).toInt32 = Int32.ofInt n := by
  intro n h
  apply Int32.toInt_inj.mp
  rw [Int16.toInt_toInt32, n_toOf (by constructor <;> omega), Int16.toInt_ofInt]
  exact Int.bmod_eq_of_le (by show -((Int16.size : Int) / 2) ≤ n; simp [Int16.size]; omega) (by show n < ((Int16.size : Int) + 1) / 2; simp [Int16.size]; omega)
theorem n_nat (k : Nat) : Int32.ofInt (k : Int) = Int32.ofNat k := by
  first
    | rfl
    | exact Int32.ofInt_ofNat k
    | exact (Int32.ofInt_natCast k)
    | simp
theorem n_cl {j : Int} (h0 : 0 ≤ j) (h1 : j ≤ 2147483647) : (Int32.ofInt j).toNatClampNeg = j.toNat := by
  obtain ⟨k, rfl⟩ := Int.eq_ofNat_of_zero_le h0
  rw [n_nat]
  exact Int32.toNatClampNeg_ofNat_of_lt (by omega)
theorem n_in {j : Int} {n : Nat} (h0 : 0 ≤ j) (h1 : j ≤ 2147483647) (hn : j < n) : vp_in (Int32.ofInt j) n := by
  intro h
  rcases h with h | h
  · rw [n_0, n_lt ⟨by omega, h1⟩ (by constructor <;> decide)] at h
    omega
  · rw [n_cl h0 h1] at h
    omega
theorem n_neg0 {n : Int} (h0 : 0 ≤ n) (h1 : n ≤ 2147483647) : ¬ Int32.ofInt n < 0 := by
  rw [n_0, n_lt ⟨by omega, h1⟩ (by constructor <;> decide)]
  omega
theorem n_lcm {x y : Int} (hx : inL x) (hy : inL y) : Int32.ofInt (lcm x y) = lg_cmp (Int64.ofInt x) (Int64.ofInt y) := by
  unfold lcm lg_cmp
  by_cases h1 : y < x
  · rw [if_pos h1, if_pos ((n_ltL hy hx).mpr h1)]; rfl
  · rw [if_neg h1, if_neg (fun q => h1 ((n_ltL hy hx).mp q))]
    by_cases h2 : x = y
    · rw [if_pos h2, if_pos ((n_eqL hx hy).mpr h2)]; rfl
    · rw [if_neg h2, if_neg (fun q => h2 ((n_eqL hx hy).mp q))]; decide
