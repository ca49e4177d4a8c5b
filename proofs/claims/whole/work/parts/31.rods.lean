-- contracts of the JDK's functions, of Rods, and of the small readers of Table
section C31
variable {xs : List Int} {h : MH}
def zabs (x : Int) : Int := if x < 0 then -x else x
theorem sp_Math_abs {x : Int} (hx : inR x) : Sp xs m_Math_abs [vI x] h (some (vI (zabs x))) h := by
  refine en_Math_abs ?_
  have h1 := hx.1
  have h2 := hx.2
  refine r_iload_n cd_Math_abs_0 rfl ?_
  refine r_if_ge cd_Math_abs_1 ⟨by omega, by omega⟩ (fun c_1 => ?_) (fun c_1 => ?_)
  · skip
    refine r_iload_n cd_Math_abs_9 rfl ?_
    exact r_iret cd_Math_abs_10 rt_Math_abs (by unfold zabs; split <;> omega) (by rfl)
  · skip
    refine r_iload_n cd_Math_abs_4 rfl ?_
    refine r_ineg cd_Math_abs_5 ?_
    refine r_goto cd_Math_abs_6 ?_
    exact r_iret cd_Math_abs_10 rt_Math_abs (by unfold zabs; split <;> omega) (by rfl)
theorem sp_Math_max {x y : Int} (hx : inR x) (hy : inR y) : Sp xs m_Math_max [vI x, vI y] h (some (vI (max x y))) h := by
  refine en_Math_max ?_
  obtain ⟨h1, h2⟩ := hx
  obtain ⟨h3, h4⟩ := hy
  refine r_iload_n cd_Math_max_0 rfl ?_
  refine r_iload_n cd_Math_max_1 rfl ?_
  refine r_icmp_lt cd_Math_max_2 ⟨by omega, by omega⟩ ⟨by omega, by omega⟩ (fun c_2 => ?_) (fun c_2 => ?_)
  · skip
    refine r_iload_n cd_Math_max_9 rfl ?_
    exact r_iret cd_Math_max_10 rt_Math_max (by first | rfl | omega | (split <;> first | rfl | omega)) (by rfl)
  · skip
    refine r_iload_n cd_Math_max_5 rfl ?_
    refine r_goto cd_Math_max_6 ?_
    exact r_iret cd_Math_max_10 rt_Math_max (by first | rfl | omega | (split <;> first | rfl | omega)) (by rfl)
theorem sp_Math_min {x y : Int} (hx : inR x) (hy : inR y) : Sp xs m_Math_min [vI x, vI y] h (some (vI (min x y))) h := by
  refine en_Math_min ?_
  obtain ⟨h1, h2⟩ := hx
  obtain ⟨h3, h4⟩ := hy
  refine r_iload_n cd_Math_min_0 rfl ?_
  refine r_iload_n cd_Math_min_1 rfl ?_
  refine r_icmp_gt cd_Math_min_2 ⟨by omega, by omega⟩ ⟨by omega, by omega⟩ (fun c_2 => ?_) (fun c_2 => ?_)
  · skip
    refine r_iload_n cd_Math_min_9 rfl ?_
    exact r_iret cd_Math_min_10 rt_Math_min (by first | rfl | omega | (split <;> first | rfl | omega)) (by rfl)
  · skip
    refine r_iload_n cd_Math_min_5 rfl ?_
    refine r_goto cd_Math_min_6 ?_
    exact r_iret cd_Math_min_10 rt_Math_min (by first | rfl | omega | (split <;> first | rfl | omega)) (by rfl)
theorem sp_Rods_isRod {r : Int} (hr : inR r) : Sp xs m_Rods_isRod [vI r] h (some (vI (bp (0 ≤ r ∧ r < 8)))) h := by
  refine en_Rods_isRod ?_
  obtain ⟨h1, h2⟩ := hr
  refine r_iload_n cd_Rods_isRod_0 rfl ?_
  refine r_if_lt cd_Rods_isRod_1 ⟨by omega, by omega⟩ (fun c_1 => ?_) (fun c_1 => ?_)
  · skip
    refine r_iconst cd_Rods_isRod_14 ?_
    exact r_zret cd_Rods_isRod_15 rt_Rods_isRod (by unfold bp; split <;> omega) (by rfl)
  · skip
    refine r_iload_n cd_Rods_isRod_4 rfl ?_
    refine r_bipush cd_Rods_isRod_5 ?_
    refine r_icmp_ge cd_Rods_isRod_7 ⟨by omega, by omega⟩ ⟨by decide, by decide⟩ (fun c_7 => ?_) (fun c_7 => ?_)
    · skip
      refine r_iconst cd_Rods_isRod_14 ?_
      exact r_zret cd_Rods_isRod_15 rt_Rods_isRod (by unfold bp; split <;> omega) (by rfl)
    · skip
      refine r_iconst cd_Rods_isRod_10 ?_
      refine r_goto cd_Rods_isRod_11 ?_
      exact r_zret cd_Rods_isRod_15 rt_Rods_isRod (by unfold bp; split <;> omega) (by rfl)
theorem sp_Rods_sideOf {r : Int} (hr : inR r) : Sp xs m_Rods_sideOf [vI r] h (some (vI (if 0 ≤ r ∧ r < 8 then sid r else -6))) h := by
  refine en_Rods_sideOf ?_
  obtain ⟨h1, h2⟩ := hr
  refine r_iload_n cd_Rods_sideOf_0 rfl ?_
  refine r_if_lt cd_Rods_sideOf_1 ⟨by omega, by omega⟩ (fun c_1 => ?_) (fun c_1 => ?_)
  · skip
    refine r_bipush cd_Rods_sideOf_20 ?_
    exact r_iret cd_Rods_sideOf_22 rt_Rods_sideOf (by first | (rw [if_pos (by omega)]; rfl) | (rw [if_neg (by omega)])) (by rfl)
  · skip
    refine r_iload_n cd_Rods_sideOf_4 rfl ?_
    refine r_getstatic cd_Rods_sideOf_5 ?_
    refine r_arraylengthS (N := 8) (l := [0, 0, 1, 0, 1, 0, 1, 1]) cd_Rods_sideOf_8 rfl (by decide) rfl ?_
    refine r_icmp_ge cd_Rods_sideOf_9 ⟨by omega, by omega⟩ ⟨by omega, by omega⟩ (fun c_9 => ?_) (fun c_9 => ?_)
    · skip
      refine r_bipush cd_Rods_sideOf_20 ?_
      exact r_iret cd_Rods_sideOf_22 rt_Rods_sideOf (by first | (rw [if_pos (by omega)]; rfl) | (rw [if_neg (by omega)])) (by rfl)
    · skip
      refine r_getstatic cd_Rods_sideOf_12 ?_
      refine r_iload_n cd_Rods_sideOf_15 rfl ?_
      refine r_ialoadS (N := 8) (l := [0, 0, 1, 0, 1, 0, 1, 1]) cd_Rods_sideOf_16 rfl (by decide) rfl (by omega) (by omega) (by omega) ?_
      refine r_goto cd_Rods_sideOf_17 ?_
      exact r_iret cd_Rods_sideOf_22 rt_Rods_sideOf (by first | (rw [if_pos (by omega)]; rfl) | (rw [if_neg (by omega)])) (by rfl)
theorem sp_Rods_menOf {r : Int} (hr : inR r) : Sp xs m_Rods_menOf [vI r] h (some (vI (if 0 ≤ r ∧ r < 8 then men r else 0))) h := by
  refine en_Rods_menOf ?_
  obtain ⟨h1, h2⟩ := hr
  refine r_iload_n cd_Rods_menOf_0 rfl ?_
  refine r_if_lt cd_Rods_menOf_1 ⟨by omega, by omega⟩ (fun c_1 => ?_) (fun c_1 => ?_)
  · skip
    refine r_iconst cd_Rods_menOf_20 ?_
    exact r_iret cd_Rods_menOf_21 rt_Rods_menOf (by first | (rw [if_pos (by omega)]; rfl) | (rw [if_neg (by omega)])) (by rfl)
  · skip
    refine r_iload_n cd_Rods_menOf_4 rfl ?_
    refine r_getstatic cd_Rods_menOf_5 ?_
    refine r_arraylengthS (N := 8) (l := [1, 2, 3, 5, 5, 3, 2, 1]) cd_Rods_menOf_8 rfl (by decide) rfl ?_
    refine r_icmp_ge cd_Rods_menOf_9 ⟨by omega, by omega⟩ ⟨by omega, by omega⟩ (fun c_9 => ?_) (fun c_9 => ?_)
    · skip
      refine r_iconst cd_Rods_menOf_20 ?_
      exact r_iret cd_Rods_menOf_21 rt_Rods_menOf (by first | (rw [if_pos (by omega)]; rfl) | (rw [if_neg (by omega)])) (by rfl)
    · skip
      refine r_getstatic cd_Rods_menOf_12 ?_
      refine r_iload_n cd_Rods_menOf_15 rfl ?_
      refine r_ialoadS (N := 8) (l := [1, 2, 3, 5, 5, 3, 2, 1]) cd_Rods_menOf_16 rfl (by decide) rfl (by omega) (by omega) (by omega) ?_
      refine r_goto cd_Rods_menOf_17 ?_
      exact r_iret cd_Rods_menOf_21 rt_Rods_menOf (by first | (rw [if_pos (by omega)]; rfl) | (rw [if_neg (by omega)])) (by rfl)
theorem sp_Rods_gapOf {r : Int} (hr : inR r) : Sp xs m_Rods_gapOf [vI r] h (some (vI (if 0 ≤ r ∧ r < 8 then gap r else 0))) h := by
  refine en_Rods_gapOf ?_
  obtain ⟨h1, h2⟩ := hr
  refine r_iload_n cd_Rods_gapOf_0 rfl ?_
  refine r_if_lt cd_Rods_gapOf_1 ⟨by omega, by omega⟩ (fun c_1 => ?_) (fun c_1 => ?_)
  · skip
    refine r_iconst cd_Rods_gapOf_20 ?_
    exact r_iret cd_Rods_gapOf_21 rt_Rods_gapOf (by first | (rw [if_pos (by omega)]; rfl) | (rw [if_neg (by omega)])) (by rfl)
  · skip
    refine r_iload_n cd_Rods_gapOf_4 rfl ?_
    refine r_getstatic cd_Rods_gapOf_5 ?_
    refine r_arraylengthS (N := 8) (l := [0, 16, 12, 8, 8, 12, 16, 0]) cd_Rods_gapOf_8 rfl (by decide) rfl ?_
    refine r_icmp_ge cd_Rods_gapOf_9 ⟨by omega, by omega⟩ ⟨by omega, by omega⟩ (fun c_9 => ?_) (fun c_9 => ?_)
    · skip
      refine r_iconst cd_Rods_gapOf_20 ?_
      exact r_iret cd_Rods_gapOf_21 rt_Rods_gapOf (by first | (rw [if_pos (by omega)]; rfl) | (rw [if_neg (by omega)])) (by rfl)
    · skip
      refine r_getstatic cd_Rods_gapOf_12 ?_
      refine r_iload_n cd_Rods_gapOf_15 rfl ?_
      refine r_ialoadS (N := 8) (l := [0, 16, 12, 8, 8, 12, 16, 0]) cd_Rods_gapOf_16 rfl (by decide) rfl (by omega) (by omega) (by omega) ?_
      refine r_goto cd_Rods_gapOf_17 ?_
      exact r_iret cd_Rods_gapOf_21 rt_Rods_gapOf (by first | (rw [if_pos (by omega)]; rfl) | (rw [if_neg (by omega)])) (by rfl)
theorem in_rod {r : Int} (h0 : 0 ≤ r) (h1 : r < 8) : inR r := ⟨by omega, by omega⟩
theorem sp_men {r : Int} (h0 : 0 ≤ r) (h1 : r < 8) : Sp xs m_Rods_menOf [vI r] h (some (vI (men r))) h := by
  have := sp_Rods_menOf (xs := xs) (h := h) (in_rod h0 h1)
  rwa [if_pos ⟨h0, h1⟩] at this
theorem sp_gap {r : Int} (h0 : 0 ≤ r) (h1 : r < 8) : Sp xs m_Rods_gapOf [vI r] h (some (vI (gap r))) h := by
  have := sp_Rods_gapOf (xs := xs) (h := h) (in_rod h0 h1)
  rwa [if_pos ⟨h0, h1⟩] at this
theorem sp_sid {r : Int} (h0 : 0 ≤ r) (h1 : r < 8) : Sp xs m_Rods_sideOf [vI r] h (some (vI (sid r))) h := by
  have := sp_Rods_sideOf (xs := xs) (h := h) (in_rod h0 h1)
  rwa [if_pos ⟨h0, h1⟩] at this
theorem sp_Rods_isMan {r m : Int} (hr : inR r) (hm : inR m) : Sp xs m_Rods_isMan [vI r, vI m] h (some (vI (bp (0 ≤ m ∧ 0 ≤ r ∧ r < 8 ∧ m < men r)))) h := by
  refine en_Rods_isMan ?_
  have q1 := hr
  obtain ⟨h1, h2⟩ := hr
  obtain ⟨h3, h4⟩ := hm
  have h5 : inR (if 0 ≤ r ∧ r < 8 then men r else 0) := by
    split
    · next q => have := men_bd q.1 q.2; constructor <;> omega
    · constructor <;> decide
  refine r_iload_n cd_Rods_isMan_0 rfl ?_
  refine r_if_lt cd_Rods_isMan_1 ⟨by omega, by omega⟩ (fun c_1 => ?_) (fun c_1 => ?_)
  · skip
    refine r_iconst cd_Rods_isMan_16 ?_
    exact r_zret cd_Rods_isMan_17 rt_Rods_isMan (by unfold bp; split at * <;> first | (rw [if_pos (by omega)]; done) | (rw [if_neg (by omega)]; done) | omega) (by rfl)
  · skip
    refine r_iload_n cd_Rods_isMan_4 rfl ?_
    refine r_iload_n cd_Rods_isMan_5 rfl ?_
    refine r_cv1 cd_Rods_isMan_6 rfl ck_Rods_isMan_Rods_menOf rfl (Nat.le_of_ble_eq_true rfl) (sp_Rods_menOf q1) ?_
    refine r_icmp_ge cd_Rods_isMan_9 ⟨by omega, by omega⟩ ⟨by omega, by omega⟩ (fun c_9 => ?_) (fun c_9 => ?_)
    · skip
      refine r_iconst cd_Rods_isMan_16 ?_
      exact r_zret cd_Rods_isMan_17 rt_Rods_isMan (by unfold bp; split at * <;> first | (rw [if_pos (by omega)]; done) | (rw [if_neg (by omega)]; done) | omega) (by rfl)
    · skip
      refine r_iconst cd_Rods_isMan_12 ?_
      refine r_goto cd_Rods_isMan_13 ?_
      exact r_zret cd_Rods_isMan_17 rt_Rods_isMan (by unfold bp; split at * <;> first | (rw [if_pos (by omega)]; done) | (rw [if_neg (by omega)]; done) | omega) (by rfl)
theorem sp_Rods_lastSlide {r : Int} (h0 : 0 ≤ r) (h1 : r < 8) : Sp xs m_Rods_lastSlide [vI r] h (some (vI (wid r))) h := by
  refine en_Rods_lastSlide ?_
  refine r_bipush cd_Rods_lastSlide_0 ?_
  refine r_iload_n cd_Rods_lastSlide_2 rfl ?_
  refine r_cv1 cd_Rods_lastSlide_3 rfl ck_Rods_lastSlide_Rods_menOf rfl (Nat.le_of_ble_eq_true rfl) (sp_men h0 h1) ?_
  refine r_iconst cd_Rods_lastSlide_6 ?_
  refine r_isub cd_Rods_lastSlide_7 ?_
  refine r_iload_n cd_Rods_lastSlide_8 rfl ?_
  refine r_cv1 cd_Rods_lastSlide_9 rfl ck_Rods_lastSlide_Rods_gapOf rfl (Nat.le_of_ble_eq_true rfl) (sp_gap h0 h1) ?_
  refine r_imul cd_Rods_lastSlide_12 ?_
  refine r_isub cd_Rods_lastSlide_13 ?_
  exact r_iret cd_Rods_lastSlide_14 rt_Rods_lastSlide (by first | rfl | omega | (split <;> first | rfl | omega)) (by rfl)
theorem sp_Rods_isOf {r s : Int} (hr : inR r) (hs : inR s) : Sp xs m_Rods_isOf [vI r, vI s] h (some (vI (bp (0 ≤ r ∧ r < 8 ∧ sid r = s)))) h := by
  refine en_Rods_isOf ?_
  obtain ⟨h3, h4⟩ := hs
  refine r_iload_n cd_Rods_isOf_0 rfl ?_
  refine r_cv1 cd_Rods_isOf_1 rfl ck_Rods_isOf_Rods_isRod rfl (Nat.le_of_ble_eq_true rfl) (sp_Rods_isRod hr) ?_
  refine r_ifeq_p cd_Rods_isOf_4 (fun c_4 => ?_) (fun c_4 => ?_)
  · skip
    refine r_iconst cd_Rods_isOf_19 ?_
    exact r_zret cd_Rods_isOf_20 rt_Rods_isOf (by unfold bp; split <;> omega) (by rfl)
  · skip
    refine r_iload_n cd_Rods_isOf_7 rfl ?_
    refine r_cv1 cd_Rods_isOf_8 rfl ck_Rods_isOf_Rods_sideOf rfl (Nat.le_of_ble_eq_true rfl) (sp_sid c_4.1 c_4.2) ?_
    refine r_iload_n cd_Rods_isOf_11 rfl ?_
    refine r_icmp_ne cd_Rods_isOf_12 ⟨by (have := sid_bd c_4.1 c_4.2; omega), by (have := sid_bd c_4.1 c_4.2; omega)⟩ ⟨by (have := sid_bd c_4.1 c_4.2; omega), by (have := sid_bd c_4.1 c_4.2; omega)⟩ (fun c_12 => ?_) (fun c_12 => ?_)
    · skip
      refine r_iconst cd_Rods_isOf_19 ?_
      exact r_zret cd_Rods_isOf_20 rt_Rods_isOf (by unfold bp; split <;> omega) (by rfl)
    · skip
      refine r_iconst cd_Rods_isOf_15 ?_
      refine r_goto cd_Rods_isOf_16 ?_
      exact r_zret cd_Rods_isOf_20 rt_Rods_isOf (by unfold bp; split <;> omega) (by rfl)
theorem sp_Rods_keeperOf {s : Int} (hs : inR s) : Sp xs m_Rods_keeperOf [vI s] h (some (vI (if s = 0 then 0 else 7))) h := by
  refine en_Rods_keeperOf ?_
  obtain ⟨h3, h4⟩ := hs
  refine r_iload_n cd_Rods_keeperOf_0 rfl ?_
  refine r_if_ne cd_Rods_keeperOf_1 ⟨by omega, by omega⟩ (fun c_1 => ?_) (fun c_1 => ?_)
  · skip
    refine r_bipush cd_Rods_keeperOf_8 ?_
    exact r_iret cd_Rods_keeperOf_10 rt_Rods_keeperOf (by first | rfl | omega | (split <;> first | rfl | omega)) (by rfl)
  · skip
    refine r_iconst cd_Rods_keeperOf_4 ?_
    refine r_goto cd_Rods_keeperOf_5 ?_
    exact r_iret cd_Rods_keeperOf_10 rt_Rods_keeperOf (by first | rfl | omega | (split <;> first | rfl | omega)) (by rfl)
theorem sp_Rods_backsOf {s : Int} (hs : inR s) : Sp xs m_Rods_backsOf [vI s] h (some (vI (if s = 0 then 1 else 6))) h := by
  refine en_Rods_backsOf ?_
  obtain ⟨h3, h4⟩ := hs
  refine r_iload_n cd_Rods_backsOf_0 rfl ?_
  refine r_if_ne cd_Rods_backsOf_1 ⟨by omega, by omega⟩ (fun c_1 => ?_) (fun c_1 => ?_)
  · skip
    refine r_bipush cd_Rods_backsOf_8 ?_
    exact r_iret cd_Rods_backsOf_10 rt_Rods_backsOf (by first | rfl | omega | (split <;> first | rfl | omega)) (by rfl)
  · skip
    refine r_iconst cd_Rods_backsOf_4 ?_
    refine r_goto cd_Rods_backsOf_5 ?_
    exact r_iret cd_Rods_backsOf_10 rt_Rods_backsOf (by first | rfl | omega | (split <;> first | rfl | omega)) (by rfl)
theorem sp_Rods_stepToGoalOf {s : Int} (hs : inR s) : Sp xs m_Rods_stepToGoalOf [vI s] h (some (vI (if s = 0 then 1 else -1))) h := by
  refine en_Rods_stepToGoalOf ?_
  obtain ⟨h3, h4⟩ := hs
  refine r_iload_n cd_Rods_stepToGoalOf_0 rfl ?_
  refine r_if_ne cd_Rods_stepToGoalOf_1 ⟨by omega, by omega⟩ (fun c_1 => ?_) (fun c_1 => ?_)
  · skip
    refine r_iconst cd_Rods_stepToGoalOf_8 ?_
    exact r_iret cd_Rods_stepToGoalOf_9 rt_Rods_stepToGoalOf (by first | rfl | omega | (split <;> first | rfl | omega)) (by rfl)
  · skip
    refine r_iconst cd_Rods_stepToGoalOf_4 ?_
    refine r_goto cd_Rods_stepToGoalOf_5 ?_
    exact r_iret cd_Rods_stepToGoalOf_9 rt_Rods_stepToGoalOf (by first | rfl | omega | (split <;> first | rfl | omega)) (by rfl)
end C31
