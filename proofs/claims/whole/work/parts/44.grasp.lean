-- contracts of Grasps
section C44
variable {xs : List Int} {h : MH}
theorem bp_iff {P Q : Prop} [d1 : Decidable P] [d2 : Decidable Q] (e : P ↔ Q) : bp P = bp Q := by
  by_cases z : P
  · rw [bp_t z, bp_t (e.mp z)]
  · rw [bp_f z, bp_f (fun y => z (e.mpr y))]
def drp : Nat → Int → Int
  | 0, r => r
  | m + 1, r => drp m (r / 10)
def nd (row n i : Int) : Int := drp (n - 1 - i).toNat row % 10
theorem drp_nn : ∀ (m : Nat) (r : Int), 0 ≤ r → 0 ≤ drp m r
  | 0, r, h0 => h0
  | m + 1, r, h0 => drp_nn m (r / 10) (by omega)
theorem nd_bd {row n i : Int} (h0 : 0 ≤ row) : 0 ≤ nd row n i ∧ nd row n i < 10 := by
  have := drp_nn (n - 1 - i).toNat row h0
  unfold nd
  omega
def iwA : Nat → Int → Bool
  | 0, r => decide (r = 0)
  | k + 1, r => if 4 ≤ r % 10 then false else iwA k (r / 10)
theorem iw_dig : ∀ (k : Nat) (r : Int), iwA k r = true → ∀ m, m < k → drp m r % 10 < 4
  | 0, _, _, m, hm => by omega
  | k + 1, r, e, m, hm => by
    unfold iwA at e
    by_cases z : 4 ≤ r % 10
    · rw [if_pos z] at e
      exact absurd e Bool.false_ne_true
    · rw [if_neg z] at e
      cases m with
      | zero => unfold drp; omega
      | succ m => unfold drp; exact iw_dig k (r / 10) e m (by omega)
theorem lp_Grasps_isRow {row n : Int} (n1 : n ≤ 9) : ∀ (k : Nat) (r i : Int), 0 ≤ r → r ≤ 2147483647 → 0 ≤ i → i + k = n → Rn xs m_Grasps_isRow 10 [vI row, vI n, vI r, vI i] [] h (some (vI (bp (iwA k r = true)))) h := by
  intro k
  induction k with
  | zero =>
    intro r i r0 r1 i0 i1
    refine r_iload_n cd_Grasps_isRow_10 rfl ?_
    refine r_iload_n cd_Grasps_isRow_11 rfl ?_
    refine r_icmp_ge cd_Grasps_isRow_12 ⟨by omega, by omega⟩ ⟨by omega, by omega⟩ (fun c_12 => ?_) (fun c_12 => ?_)
    · skip
      refine r_iload_n cd_Grasps_isRow_36 rfl ?_
      refine r_if_ne cd_Grasps_isRow_37 ⟨by omega, by omega⟩ (fun c_37 => ?_) (fun c_37 => ?_)
      · skip
        refine r_iconst cd_Grasps_isRow_44 ?_
        exact r_zret cd_Grasps_isRow_45 rt_Grasps_isRow (by (unfold iwA; first | (rw [bp_t (decide_eq_true c_37)]; done) | (rw [bp_f (fun z => c_37 (of_decide_eq_true z))]; done))) (by rfl)
      · skip
        refine r_iconst cd_Grasps_isRow_40 ?_
        refine r_goto cd_Grasps_isRow_41 ?_
        exact r_zret cd_Grasps_isRow_45 rt_Grasps_isRow (by (unfold iwA; first | (rw [bp_t (decide_eq_true c_37)]; done) | (rw [bp_f (fun z => c_37 (of_decide_eq_true z))]; done))) (by rfl)
    · skip
      omega
  | succ k ih =>
    intro r i r0 r1 i0 i1
    have e1 : r.tmod 10 = r % 10 := Int.tmod_eq_emod_of_nonneg r0
    have e2 : r.tdiv 10 = r / 10 := Int.tdiv_eq_ediv_of_nonneg r0
    have e9 := ih (r / 10) (i + 1) (by omega) (by omega) (by omega) (by omega)
    rw [← e2] at e9
    refine r_iload_n cd_Grasps_isRow_10 rfl ?_
    refine r_iload_n cd_Grasps_isRow_11 rfl ?_
    refine r_icmp_ge cd_Grasps_isRow_12 ⟨by omega, by omega⟩ ⟨by omega, by omega⟩ (fun c_12 => ?_) (fun c_12 => ?_)
    · skip
      omega
    · skip
      refine r_iload_n cd_Grasps_isRow_15 rfl ?_
      refine r_bipush cd_Grasps_isRow_16 ?_
      refine r_irem cd_Grasps_isRow_18 ⟨by omega, by omega⟩ ⟨by decide, by decide⟩ (by decide) ?_
      refine r_iconst cd_Grasps_isRow_19 ?_
      refine r_icmp_lt cd_Grasps_isRow_20 ⟨by omega, by omega⟩ ⟨by decide, by decide⟩ (fun c_20 => ?_) (fun c_20 => ?_)
      · skip
        refine r_iload_n cd_Grasps_isRow_25 rfl ?_
        refine r_bipush cd_Grasps_isRow_26 ?_
        refine r_idiv cd_Grasps_isRow_28 ⟨by omega, by omega⟩ ⟨by decide, by decide⟩ (by decide) ?_
        refine r_istoren4_2 cd_Grasps_isRow_29 rfl ?_
        refine r_iinc4_3 cd_Grasps_isRow_30 rfl ?_
        refine r_goto cd_Grasps_isRow_33 ?_
        (rw [show iwA (k + 1) r = iwA k (r.tdiv 10) by rw [e2]; (conv => lhs; unfold iwA); rw [if_neg (by omega)]]; exact e9)
      · skip
        refine r_iconst cd_Grasps_isRow_23 ?_
        exact r_zret cd_Grasps_isRow_24 rt_Grasps_isRow (by (rw [bp_f (by unfold iwA; rw [if_pos (by omega)]; exact Bool.false_ne_true)])) (by rfl)
theorem sp_Grasps_isRow {row n : Int} (hr : inR row) (n0 : 1 ≤ n) (n1 : n ≤ 9) : Sp xs m_Grasps_isRow [vI row, vI n] h (some (vI (bp (0 ≤ row ∧ iwA n.toNat row = true)))) h := by
  obtain ⟨r0, r1⟩ := hr
  refine en_Grasps_isRow ?_
  refine r_iload_n cd_Grasps_isRow_0 rfl ?_
  refine r_if_ge cd_Grasps_isRow_1 ⟨by omega, by omega⟩ (fun c_1 => ?_) (fun c_1 => ?_)
  · skip
    refine r_iload_n cd_Grasps_isRow_6 rfl ?_
    refine r_istoren4_2 cd_Grasps_isRow_7 rfl ?_
    refine r_iconst cd_Grasps_isRow_8 ?_
    refine r_istoren4_3 cd_Grasps_isRow_9 rfl ?_
    (have e9 := lp_Grasps_isRow (xs := xs) (h := h) (row := row) n1 n.toNat row 0 c_1 r1 (by omega) (by omega); rw [show bp (iwA n.toNat row = true) = bp (0 ≤ row ∧ iwA n.toNat row = true) from bp_iff ⟨fun z => ⟨c_1, z⟩, fun z => z.2⟩] at e9; exact e9)
  · skip
    refine r_iconst cd_Grasps_isRow_4 ?_
    exact r_zret cd_Grasps_isRow_5 rt_Grasps_isRow (by (rw [bp_f (fun z => by omega)])) (by rfl)
theorem lp_needed {row n i : Int} (n1 : n ≤ 9) : ∀ (k : Nat) (r j : Int), 0 ≤ r → r ≤ 2147483647 → 0 ≤ j → j + k = n → Rn xs m_Grasps_needed 7 [vI row, vI n, vI i, vI r, vI j] [] h (some (vI (drp k r % 10))) h := by
  intro k
  induction k with
  | zero =>
    intro r j r0 r1 j0 j1
    have e1 : r.tmod 10 = r % 10 := Int.tmod_eq_emod_of_nonneg r0
    refine r_iload cd_Grasps_needed_7 rfl ?_
    refine r_iload_n cd_Grasps_needed_9 rfl ?_
    refine r_icmp_ge cd_Grasps_needed_10 ⟨by omega, by omega⟩ ⟨by omega, by omega⟩ (fun c_10 => ?_) (fun c_10 => ?_)
    · skip
      refine r_iload_n cd_Grasps_needed_24 rfl ?_
      refine r_bipush cd_Grasps_needed_25 ?_
      refine r_irem cd_Grasps_needed_27 ⟨by omega, by omega⟩ ⟨by decide, by decide⟩ (by decide) ?_
      exact r_iret cd_Grasps_needed_28 rt_Grasps_needed (by (unfold drp; exact e1)) (by rfl)
    · skip
      omega
  | succ k ih =>
    intro r j r0 r1 j0 j1
    have e2 : r.tdiv 10 = r / 10 := Int.tdiv_eq_ediv_of_nonneg r0
    have e9 := ih (r / 10) (j + 1) (by omega) (by omega) (by omega) (by omega)
    rw [← e2] at e9
    refine r_iload cd_Grasps_needed_7 rfl ?_
    refine r_iload_n cd_Grasps_needed_9 rfl ?_
    refine r_icmp_ge cd_Grasps_needed_10 ⟨by omega, by omega⟩ ⟨by omega, by omega⟩ (fun c_10 => ?_) (fun c_10 => ?_)
    · skip
      omega
    · skip
      refine r_iload_n cd_Grasps_needed_13 rfl ?_
      refine r_bipush cd_Grasps_needed_14 ?_
      refine r_idiv cd_Grasps_needed_16 ⟨by omega, by omega⟩ ⟨by decide, by decide⟩ (by decide) ?_
      refine r_istoren5_3 cd_Grasps_needed_17 rfl ?_
      refine r_iinc5_4 cd_Grasps_needed_18 rfl ?_
      refine r_goto cd_Grasps_needed_21 ?_
      (rw [show drp (k + 1) r = drp k (r.tdiv 10) by rw [e2]; rfl]; exact e9)
theorem sp_needed {row n i : Int} (r0 : 0 ≤ row) (r1 : row ≤ 2147483647) (n1 : n ≤ 9) (i0 : 0 ≤ i) (i1 : i < n) : Sp xs m_Grasps_needed [vI row, vI n, vI i] h (some (vI (nd row n i))) h := by
  refine en_Grasps_needed ?_
  refine r_iload_n cd_Grasps_needed_0 rfl ?_
  refine r_istoren5_3 cd_Grasps_needed_1 rfl ?_
  refine r_iload_n cd_Grasps_needed_2 rfl ?_
  refine r_iconst cd_Grasps_needed_3 ?_
  refine r_iadd cd_Grasps_needed_4 ?_
  refine r_istore5_4 cd_Grasps_needed_5 rfl ?_
  exact lp_needed n1 (n - 1 - i).toNat row (i + 1) r0 r1 (by omega) (by omega)
def nnA (row n rod : Int) : Nat → Int → Int
  | 0, _ => n
  | m + 1, k => if nd row n k = rod then k else nnA row n rod m (k + 1)
def nxn (row n i rod : Int) : Int := nnA row n rod (n - 1 - i).toNat (i + 1)
theorem nnA_bd {row n rod : Int} : ∀ (m : Nat) (k : Int), 0 ≤ k → k + m = n → k ≤ nnA row n rod m k ∧ nnA row n rod m k ≤ n
  | 0, k, h0, h1 => by unfold nnA; omega
  | m + 1, k, h0, h1 => by
    have := nnA_bd (row := row) (n := n) (rod := rod) m (k + 1) (by omega) (by omega)
    unfold nnA
    split <;> omega
theorem lp_nextNeed {row n i rod : Int} (r0 : 0 ≤ row) (r1 : row ≤ 2147483647) (n1 : n ≤ 9) (d0 : 0 ≤ rod) (d1 : rod < 10) : ∀ (m : Nat) (k : Int), 0 ≤ k → k + m = n → Rn xs m_Grasps_nextNeed 5 [vI row, vI n, vI i, vI rod, vI k] [] h (some (vI (nnA row n rod m k))) h := by
  intro m
  induction m with
  | zero =>
    intro k k0 k1
    refine r_iload cd_Grasps_nextNeed_5 rfl ?_
    refine r_iload_n cd_Grasps_nextNeed_7 rfl ?_
    refine r_icmp_ge cd_Grasps_nextNeed_8 ⟨by omega, by omega⟩ ⟨by omega, by omega⟩ (fun c_8 => ?_) (fun c_8 => ?_)
    · skip
      refine r_iload_n cd_Grasps_nextNeed_31 rfl ?_
      exact r_iret cd_Grasps_nextNeed_32 rt_Grasps_nextNeed (by first | rfl | omega | (split <;> first | rfl | omega)) (by rfl)
    · skip
      omega
  | succ m ih =>
    intro k k0 k1
    have hb := nd_bd (n := n) (i := k) r0
    refine r_iload cd_Grasps_nextNeed_5 rfl ?_
    refine r_iload_n cd_Grasps_nextNeed_7 rfl ?_
    refine r_icmp_ge cd_Grasps_nextNeed_8 ⟨by omega, by omega⟩ ⟨by omega, by omega⟩ (fun c_8 => ?_) (fun c_8 => ?_)
    · skip
      omega
    · skip
      refine r_iload_n cd_Grasps_nextNeed_11 rfl ?_
      refine r_iload_n cd_Grasps_nextNeed_12 rfl ?_
      refine r_iload cd_Grasps_nextNeed_13 rfl ?_
      refine r_cv3 cd_Grasps_nextNeed_15 rfl ck_Grasps_nextNeed_Grasps_needed rfl (Nat.le_of_ble_eq_true rfl) (sp_needed r0 r1 n1 k0 (by omega)) ?_
      refine r_iload_n cd_Grasps_nextNeed_18 rfl ?_
      refine r_icmp_ne cd_Grasps_nextNeed_19 ⟨by omega, by omega⟩ ⟨by omega, by omega⟩ (fun c_19 => ?_) (fun c_19 => ?_)
      · skip
        refine r_iinc5_4 cd_Grasps_nextNeed_25 rfl ?_
        refine r_goto cd_Grasps_nextNeed_28 ?_
        (have e9 := ih (k + 1) (by omega) (by omega); unfold nnA; rw [if_neg c_19]; exact e9)
      · skip
        refine r_iload cd_Grasps_nextNeed_22 rfl ?_
        exact r_iret cd_Grasps_nextNeed_24 rt_Grasps_nextNeed (by (unfold nnA; rw [if_pos c_19])) (by rfl)
theorem sp_nextNeed {row n i rod : Int} (r0 : 0 ≤ row) (r1 : row ≤ 2147483647) (n1 : n ≤ 9) (i0 : 0 ≤ i) (i1 : i < n) (d0 : 0 ≤ rod) (d1 : rod < 10) : Sp xs m_Grasps_nextNeed [vI row, vI n, vI i, vI rod] h (some (vI (nxn row n i rod))) h := by
  refine en_Grasps_nextNeed ?_
  refine r_iload_n cd_Grasps_nextNeed_0 rfl ?_
  refine r_iconst cd_Grasps_nextNeed_1 ?_
  refine r_iadd cd_Grasps_nextNeed_2 ?_
  refine r_istore5_4 cd_Grasps_nextNeed_3 rfl ?_
  exact lp_nextNeed r0 r1 n1 d0 d1 (n - 1 - i).toNat (i + 1) (by omega) (by omega)
def ltA (row n i held : Int) : Nat → Int → Int → Int → Int
  | 0, _, l, _ => l
  | m + 1, rod, l, wh => if bAnd (bShr held rod) 1 = 1 ∧ wh < nxn row n i rod then ltA row n i held m (rod + 1) rod (nxn row n i rod) else ltA row n i held m (rod + 1) l wh
def lst (row n i held : Int) : Int := ltA row n i held 4 0 0 (-1)
theorem ltA_bd {row n i held : Int} : ∀ (m : Nat) (rod l wh : Int), 0 ≤ rod → rod + m = 4 → 0 ≤ l → l < 4 → 0 ≤ ltA row n i held m rod l wh ∧ ltA row n i held m rod l wh < 4
  | 0, _, l, _, _, _, h0, h1 => ⟨h0, h1⟩
  | m + 1, rod, l, wh, h0, h1, h2, h3 => by
    unfold ltA
    split
    · exact ltA_bd m (rod + 1) rod _ (by omega) (by omega) (by omega) (by omega)
    · exact ltA_bd m (rod + 1) l _ (by omega) (by omega) h2 h3
theorem hld_k : ∀ a : Nat, a < 16 → ∀ d : Nat, d < 4 → (0 ≤ bAnd (bShr (a : Int) (d : Int)) 1 ∧ bAnd (bShr (a : Int) (d : Int)) 1 ≤ 1) ∧ (0 ≤ bAnd (a : Int) (bXor (bShl 1 (d : Int)) (-1)) ∧ bAnd (a : Int) (bXor (bShl 1 (d : Int)) (-1)) < 16) ∧ (0 ≤ bOr (a : Int) (bShl 1 (d : Int)) ∧ bOr (a : Int) (bShl 1 (d : Int)) < 16) ∧ bsm a ≤ 4 := by decide +kernel
theorem hld_z {a d : Int} (a0 : 0 ≤ a) (a1 : a < 16) (d0 : 0 ≤ d) (d1 : d < 4) : (0 ≤ bAnd (bShr a d) 1 ∧ bAnd (bShr a d) 1 ≤ 1) ∧ (0 ≤ bAnd a (bXor (bShl 1 d) (-1)) ∧ bAnd a (bXor (bShl 1 d) (-1)) < 16) ∧ (0 ≤ bOr a (bShl 1 d) ∧ bOr a (bShl 1 d) < 16) ∧ bsm a.toNat ≤ 4 := by
  obtain ⟨n, rfl⟩ := Int.eq_ofNat_of_zero_le a0
  obtain ⟨k, rfl⟩ := Int.eq_ofNat_of_zero_le d0
  exact hld_k n (by omega) k (by omega)
theorem lp_latest {row n i held : Int} (r0 : 0 ≤ row) (r1 : row ≤ 2147483647) (n1 : n ≤ 9) (i0 : 0 ≤ i) (i1 : i < n) (a0 : 0 ≤ held) (a1 : held < 16) : ∀ (m : Nat) (rod l wh : Int), 0 ≤ rod → rod + m = 4 → -1 ≤ wh → wh ≤ 9 → Rn xs m_Grasps_latest 9 [vI row, vI n, vI i, vI held, vI l, vI wh, vI rod] [] h (some (vI (ltA row n i held m rod l wh))) h := by
  intro m
  induction m with
  | zero =>
    intro rod l wh d0 d1 w0 w1
    refine r_iload cd_Grasps_latest_9 rfl ?_
    refine r_iconst cd_Grasps_latest_11 ?_
    refine r_icmp_ge cd_Grasps_latest_12 ⟨by omega, by omega⟩ ⟨by decide, by decide⟩ (fun c_12 => ?_) (fun c_12 => ?_)
    · skip
      refine r_iload cd_Grasps_latest_58 rfl ?_
      exact r_iret cd_Grasps_latest_60 rt_Grasps_latest (by first | rfl | omega | (split <;> first | rfl | omega)) (by rfl)
    · skip
      omega
  | succ m ih =>
    intro rod l wh d0 d1 w0 w1
    have hz := hld_z a0 a1 d0 (by omega)
    have hn := nnA_bd (row := row) (n := n) (rod := rod) (n - 1 - i).toNat (i + 1) (by omega) (by omega)
    have hn2 : nxn row n i rod = nnA row n rod (n - 1 - i).toNat (i + 1) := rfl
    refine r_iload cd_Grasps_latest_9 rfl ?_
    refine r_iconst cd_Grasps_latest_11 ?_
    refine r_icmp_ge cd_Grasps_latest_12 ⟨by omega, by omega⟩ ⟨by decide, by decide⟩ (fun c_12 => ?_) (fun c_12 => ?_)
    · skip
      omega
    · skip
      refine r_iload_n cd_Grasps_latest_15 rfl ?_
      refine r_iload cd_Grasps_latest_16 rfl ?_
      refine r_ishr cd_Grasps_latest_18 ?_
      refine r_iconst cd_Grasps_latest_19 ?_
      refine r_iand cd_Grasps_latest_20 ?_
      refine r_iconst cd_Grasps_latest_21 ?_
      refine r_icmp_ne cd_Grasps_latest_22 ⟨by omega, by omega⟩ ⟨by decide, by decide⟩ (fun c_22 => ?_) (fun c_22 => ?_)
      · skip
        refine r_iinc7_6 cd_Grasps_latest_52 rfl ?_
        refine r_goto cd_Grasps_latest_55 ?_
        first
          | (have e9 := ih (rod + 1) rod (nxn row n i rod) (by omega) (by omega) (by omega) (by omega); unfold ltA; rw [if_pos ⟨c_22, by omega⟩]; exact e9)
          | (have e9 := ih (rod + 1) l wh (by omega) (by omega) w0 w1; unfold ltA; rw [if_neg (fun z => by omega)]; exact e9)
      · skip
        refine r_iload_n cd_Grasps_latest_25 rfl ?_
        refine r_iload_n cd_Grasps_latest_26 rfl ?_
        refine r_iload_n cd_Grasps_latest_27 rfl ?_
        refine r_iload cd_Grasps_latest_28 rfl ?_
        refine r_cv4 cd_Grasps_latest_30 rfl ck_Grasps_latest_Grasps_nextNeed rfl (Nat.le_of_ble_eq_true rfl) (sp_nextNeed r0 r1 n1 i0 i1 d0 (by omega)) ?_
        refine r_iload cd_Grasps_latest_33 rfl ?_
        refine r_icmp_le cd_Grasps_latest_35 ⟨by omega, by omega⟩ ⟨by omega, by omega⟩ (fun c_35 => ?_) (fun c_35 => ?_)
        · skip
          refine r_iinc7_6 cd_Grasps_latest_52 rfl ?_
          refine r_goto cd_Grasps_latest_55 ?_
          first
            | (have e9 := ih (rod + 1) rod (nxn row n i rod) (by omega) (by omega) (by omega) (by omega); unfold ltA; rw [if_pos ⟨c_22, by omega⟩]; exact e9)
            | (have e9 := ih (rod + 1) l wh (by omega) (by omega) w0 w1; unfold ltA; rw [if_neg (fun z => by omega)]; exact e9)
        · skip
          refine r_iload cd_Grasps_latest_38 rfl ?_
          refine r_istore7_4 cd_Grasps_latest_40 rfl ?_
          refine r_iload_n cd_Grasps_latest_42 rfl ?_
          refine r_iload_n cd_Grasps_latest_43 rfl ?_
          refine r_iload_n cd_Grasps_latest_44 rfl ?_
          refine r_iload cd_Grasps_latest_45 rfl ?_
          refine r_cv4 cd_Grasps_latest_47 rfl ck_Grasps_latest_Grasps_nextNeed rfl (Nat.le_of_ble_eq_true rfl) (sp_nextNeed r0 r1 n1 i0 i1 d0 (by omega)) ?_
          refine r_istore7_5 cd_Grasps_latest_50 rfl ?_
          refine r_iinc7_6 cd_Grasps_latest_52 rfl ?_
          refine r_goto cd_Grasps_latest_55 ?_
          first
            | (have e9 := ih (rod + 1) rod (nxn row n i rod) (by omega) (by omega) (by omega) (by omega); unfold ltA; rw [if_pos ⟨c_22, by omega⟩]; exact e9)
            | (have e9 := ih (rod + 1) l wh (by omega) (by omega) w0 w1; unfold ltA; rw [if_neg (fun z => by omega)]; exact e9)
theorem sp_latest {row n i held : Int} (r0 : 0 ≤ row) (r1 : row ≤ 2147483647) (n1 : n ≤ 9) (i0 : 0 ≤ i) (i1 : i < n) (a0 : 0 ≤ held) (a1 : held < 16) : Sp xs m_Grasps_latest [vI row, vI n, vI i, vI held] h (some (vI (lst row n i held))) h := by
  refine en_Grasps_latest ?_
  refine r_iconst cd_Grasps_latest_0 ?_
  refine r_istore7_4 cd_Grasps_latest_1 rfl ?_
  refine r_iconst cd_Grasps_latest_3 ?_
  refine r_istore7_5 cd_Grasps_latest_4 rfl ?_
  refine r_iconst cd_Grasps_latest_6 ?_
  refine r_istore7_6 cd_Grasps_latest_7 rfl ?_
  exact lp_latest r0 r1 n1 i0 i1 a0 a1 4 0 0 (-1) (by omega) (by omega) (by omega) (by omega)
def gsp (held lt d : Int) : Int := bOr (if 2 ≤ ((bsm held.toNat : Nat) : Int) then bAnd held (bXor (bShl 1 lt) (-1)) else held) (bShl 1 d)
def fwA (row n : Int) : Nat → Int → Int → Int → Int
  | 0, _, _, g => g
  | k + 1, i, held, g => if bAnd (bShr held (nd row n i)) 1 = 1 then fwA row n k (i + 1) held g else fwA row n k (i + 1) (gsp held (lst row n i held) (nd row n i)) (g + 1)
theorem lp_fewest {row n : Int} (r0 : 0 ≤ row) (r1 : row ≤ 2147483647) (n1 : n ≤ 9) (hd : iwA n.toNat row = true) : ∀ (k : Nat) (i held g : Int) (x5 : MV), 0 ≤ i → i + k = n → 0 ≤ held → held < 16 → Rn xs m_Grasps_fewest 7 [vI row, vI n, vI held, vI g, vI i, x5] [] h (some (vI (fwA row n k i held g))) h := by
  intro k
  induction k with
  | zero =>
    intro i held g x5 i0 i1 a0 a1
    refine r_iload cd_Grasps_fewest_7 rfl ?_
    refine r_iload_n cd_Grasps_fewest_9 rfl ?_
    refine r_icmp_ge cd_Grasps_fewest_10 ⟨by omega, by omega⟩ ⟨by omega, by omega⟩ (fun c_10 => ?_) (fun c_10 => ?_)
    · skip
      refine r_iload_n cd_Grasps_fewest_74 rfl ?_
      exact r_iret cd_Grasps_fewest_75 rt_Grasps_fewest (by first | rfl | omega | (split <;> first | rfl | omega)) (by rfl)
    · skip
      omega
  | succ k ih =>
    intro i held g x5 i0 i1 a0 a1
    have d0 := nd_bd (n := n) (i := i) r0
    have d1 : nd row n i < 4 := iw_dig n.toNat row hd (n - 1 - i).toNat (by omega)
    have hz := hld_z a0 a1 d0.1 d1
    have hl := ltA_bd (row := row) (n := n) (i := i) (held := held) 4 0 0 (-1) (by omega) (by omega) (by omega) (by omega)
    have hz2 := hld_z a0 a1 (d := lst row n i held) hl.1 hl.2
    have hz3 := hld_z hz2.2.1.1 hz2.2.1.2 d0.1 d1
    have hbc := sp_bitCount (xs := xs) (h := h) (x := held.toNat) (by omega)
    rw [show ((held.toNat : Nat) : Int) = held by omega] at hbc
    by_cases z : bAnd (bShr held (nd row n i)) 1 = 1
    · skip
      have e0 : fwA row n (k + 1) i held g = fwA row n k (i + 1) held g := by (conv => lhs; unfold fwA); rw [if_pos z]
      rw [e0]
      have e9 := fun x => ih (i + 1) held g x (by omega) (by omega) a0 a1
      refine r_iload cd_Grasps_fewest_7 rfl ?_
      refine r_iload_n cd_Grasps_fewest_9 rfl ?_
      refine r_icmp_ge cd_Grasps_fewest_10 ⟨by omega, by omega⟩ ⟨by omega, by omega⟩ (fun c_10 => ?_) (fun c_10 => ?_)
      · skip
        omega
      · skip
        refine r_iload_n cd_Grasps_fewest_13 rfl ?_
        refine r_iload_n cd_Grasps_fewest_14 rfl ?_
        refine r_iload cd_Grasps_fewest_15 rfl ?_
        refine r_cv3 cd_Grasps_fewest_17 rfl ck_Grasps_fewest_Grasps_needed rfl (Nat.le_of_ble_eq_true rfl) (sp_needed r0 r1 n1 i0 (by omega)) ?_
        refine r_istore6_5 cd_Grasps_fewest_20 rfl ?_
        refine r_iload_n cd_Grasps_fewest_22 rfl ?_
        refine r_iload cd_Grasps_fewest_23 rfl ?_
        refine r_ishr cd_Grasps_fewest_25 ?_
        refine r_iconst cd_Grasps_fewest_26 ?_
        refine r_iand cd_Grasps_fewest_27 ?_
        refine r_iconst cd_Grasps_fewest_28 ?_
        refine r_icmp_ne cd_Grasps_fewest_29 ⟨by omega, by omega⟩ ⟨by decide, by decide⟩ (fun c_29 => ?_) (fun c_29 => ?_)
        · skip
          exact absurd z c_29
        · skip
          refine r_goto cd_Grasps_fewest_32 ?_
          refine r_iinc6_4 cd_Grasps_fewest_68 rfl ?_
          refine r_goto cd_Grasps_fewest_71 ?_
          exact e9 _
    · skip
      have e0 : fwA row n (k + 1) i held g = fwA row n k (i + 1) (gsp held (lst row n i held) (nd row n i)) (g + 1) := by (conv => lhs; unfold fwA); rw [if_neg z]
      rw [e0]
      have hg : 0 ≤ gsp held (lst row n i held) (nd row n i) ∧ gsp held (lst row n i held) (nd row n i) < 16 := by
        unfold gsp
        split
        · exact hz3.2.2.1
        · exact hz.2.2.1
      have e9 := fun x => ih (i + 1) (gsp held (lst row n i held) (nd row n i)) (g + 1) x (by omega) (by omega) hg.1 hg.2
      unfold gsp at e9 ⊢
      refine r_iload cd_Grasps_fewest_7 rfl ?_
      refine r_iload_n cd_Grasps_fewest_9 rfl ?_
      refine r_icmp_ge cd_Grasps_fewest_10 ⟨by omega, by omega⟩ ⟨by omega, by omega⟩ (fun c_10 => ?_) (fun c_10 => ?_)
      · skip
        omega
      · skip
        refine r_iload_n cd_Grasps_fewest_13 rfl ?_
        refine r_iload_n cd_Grasps_fewest_14 rfl ?_
        refine r_iload cd_Grasps_fewest_15 rfl ?_
        refine r_cv3 cd_Grasps_fewest_17 rfl ck_Grasps_fewest_Grasps_needed rfl (Nat.le_of_ble_eq_true rfl) (sp_needed r0 r1 n1 i0 (by omega)) ?_
        refine r_istore6_5 cd_Grasps_fewest_20 rfl ?_
        refine r_iload_n cd_Grasps_fewest_22 rfl ?_
        refine r_iload cd_Grasps_fewest_23 rfl ?_
        refine r_ishr cd_Grasps_fewest_25 ?_
        refine r_iconst cd_Grasps_fewest_26 ?_
        refine r_iand cd_Grasps_fewest_27 ?_
        refine r_iconst cd_Grasps_fewest_28 ?_
        refine r_icmp_ne cd_Grasps_fewest_29 ⟨by omega, by omega⟩ ⟨by decide, by decide⟩ (fun c_29 => ?_) (fun c_29 => ?_)
        · skip
          refine r_iload_n cd_Grasps_fewest_35 rfl ?_
          refine r_cv1 cd_Grasps_fewest_36 rfl ck_Grasps_fewest_Integer_bitCount rfl (Nat.le_of_ble_eq_true rfl) hbc ?_
          refine r_iconst cd_Grasps_fewest_39 ?_
          refine r_icmp_lt cd_Grasps_fewest_40 ⟨by omega, by omega⟩ ⟨by decide, by decide⟩ (fun c_40 => ?_) (fun c_40 => ?_)
          · skip
            refine r_iload_n cd_Grasps_fewest_58 rfl ?_
            refine r_iconst cd_Grasps_fewest_59 ?_
            refine r_iload cd_Grasps_fewest_60 rfl ?_
            refine r_ishl cd_Grasps_fewest_62 ?_
            refine r_ior cd_Grasps_fewest_63 ?_
            refine r_istoren6_2 cd_Grasps_fewest_64 rfl ?_
            refine r_iinc6_3 cd_Grasps_fewest_65 rfl ?_
            refine r_iinc6_4 cd_Grasps_fewest_68 rfl ?_
            refine r_goto cd_Grasps_fewest_71 ?_
            first | (rw [if_pos c_40] at e9 ⊢; exact e9 _) | (rw [if_neg (by omega)] at e9 ⊢; exact e9 _)
          · skip
            refine r_iload_n cd_Grasps_fewest_43 rfl ?_
            refine r_iconst cd_Grasps_fewest_44 ?_
            refine r_iload_n cd_Grasps_fewest_45 rfl ?_
            refine r_iload_n cd_Grasps_fewest_46 rfl ?_
            refine r_iload cd_Grasps_fewest_47 rfl ?_
            refine r_iload_n cd_Grasps_fewest_49 rfl ?_
            refine r_cv4 cd_Grasps_fewest_50 rfl ck_Grasps_fewest_Grasps_latest rfl (Nat.le_of_ble_eq_true rfl) (sp_latest r0 r1 n1 i0 (by omega) a0 a1) ?_
            refine r_ishl cd_Grasps_fewest_53 ?_
            refine r_iconst cd_Grasps_fewest_54 ?_
            refine r_ixor cd_Grasps_fewest_55 ?_
            refine r_iand cd_Grasps_fewest_56 ?_
            refine r_istoren6_2 cd_Grasps_fewest_57 rfl ?_
            refine r_iload_n cd_Grasps_fewest_58 rfl ?_
            refine r_iconst cd_Grasps_fewest_59 ?_
            refine r_iload cd_Grasps_fewest_60 rfl ?_
            refine r_ishl cd_Grasps_fewest_62 ?_
            refine r_ior cd_Grasps_fewest_63 ?_
            refine r_istoren6_2 cd_Grasps_fewest_64 rfl ?_
            refine r_iinc6_3 cd_Grasps_fewest_65 rfl ?_
            refine r_iinc6_4 cd_Grasps_fewest_68 rfl ?_
            refine r_goto cd_Grasps_fewest_71 ?_
            first | (rw [if_pos c_40] at e9 ⊢; exact e9 _) | (rw [if_neg (by omega)] at e9 ⊢; exact e9 _)
        · skip
          exact absurd c_29 z
theorem sp_fewest {row n : Int} (r0 : 0 ≤ row) (r1 : row ≤ 2147483647) (n0 : 1 ≤ n) (n1 : n ≤ 9) (hd : iwA n.toNat row = true) : Sp xs m_Grasps_fewest [vI row, vI n] h (some (vI (fwA row n n.toNat 0 0 0))) h := by
  refine en_Grasps_fewest ?_
  refine r_iconst cd_Grasps_fewest_0 ?_
  refine r_istoren6_2 cd_Grasps_fewest_1 rfl ?_
  refine r_iconst cd_Grasps_fewest_2 ?_
  refine r_istoren6_3 cd_Grasps_fewest_3 rfl ?_
  refine r_iconst cd_Grasps_fewest_4 ?_
  refine r_istore6_4 cd_Grasps_fewest_5 rfl ?_
  exact lp_fewest r0 r1 n1 hd n.toNat 0 0 0 vU (by omega) (by omega) (by omega) (by omega)
end C44
