-- contracts of Sights
section C42
variable {xs : List Int} {h : MH} {q : Nat} {sh sd rw : List Int} {cn fd : Int}
def sobj (q : Nat) (cn fd : Int) : HC := .inl (5, [vR (q + 1), vR (q + 2), vR (q + 3), vI cn, vI fd])
def SgAt (h : MH) (q : Nat) (sh sd rw : List Int) (cn fd : Int) : Prop := h[q]? = some (sobj q cn fd) ∧ h[q + 1]? = some (.inr (0, sh)) ∧ h[q + 2]? = some (.inr (0, sd)) ∧ h[q + 3]? = some (.inr (0, rw))
def SgOK (sh sd rw : List Int) (cn fd : Int) : Prop := sh.length = 8 ∧ sd.length = 8 ∧ rw.length = 30 ∧ (0 ≤ cn ∧ cn ≤ 8) ∧ (∀ j : Int, 0 ≤ j → j < 8 → 0 ≤ at_ sh j ∧ at_ sh j ≤ 60) ∧ (∀ j : Int, 0 ≤ j → j < 8 → at_ sd j = 0 ∨ at_ sd j = 1) ∧ (0 ≤ fd ∧ fd ≤ 30) ∧ (∀ j : Int, 0 ≤ j → j < 30 → 0 ≤ at_ rw j ∧ at_ rw j ≤ 79)
def sdb (row shot : Int) : Int := if row / 16 < 1 then 0 else bAnd (bShr row (shot % (row / 16))) 1
theorem sdb_k : ∀ n : Nat, n < 80 → ∀ r : Nat, r < 4 → bAnd (bShr (n : Int) (r : Int)) 1 = 0 ∨ bAnd (bShr (n : Int) (r : Int)) 1 = 1 := by decide +kernel
theorem sdb_bd {row shot : Int} (h0 : 0 ≤ row) (h1 : row < 80) (s0 : 0 ≤ shot) : sdb row shot = 0 ∨ sdb row shot = 1 := by
  unfold sdb
  split
  · exact Or.inl rfl
  · next z =>
    have r0 : 0 ≤ shot % (row / 16) := Int.emod_nonneg _ (by omega)
    have r1 : shot % (row / 16) < row / 16 := Int.emod_lt_of_pos _ (by omega)
    have := sdb_k row.toNat (by omega) (shot % (row / 16)).toNat (by omega)
    rwa [show ((row.toNat : Nat) : Int) = row by omega, show (((shot % (row / 16)).toNat : Nat) : Int) = shot % (row / 16) by omega] at this
theorem sp_Sights_size (hS : SgAt h q sh sd rw cn fd) : Sp xs m_Sights_size [vR q] h (some (vI cn)) h := by
  refine en_Sights_size ?_
  refine r_aload_n cd_Sights_size_0 rfl ?_
  refine r_getfield cd_Sights_size_1 hS.1 rfl ?_
  exact r_iret cd_Sights_size_4 rt_Sights_size (by first | rfl | omega | (split <;> first | rfl | omega)) (by rfl)
theorem sp_Sights_clear (hS : SgAt h q sh sd rw cn fd) : Sp xs m_Sights_clear [vR q] h none (h.set q (sobj q 0 fd)) := by
  refine en_Sights_clear ?_
  refine r_aload_n cd_Sights_clear_0 rfl ?_
  refine r_iconst cd_Sights_clear_1 ?_
  refine r_putfield cd_Sights_clear_2 hS.1 (Nat.le_of_ble_eq_true rfl) rfl ?_
  exact r_vret cd_Sights_clear_5 rt_Sights_clear (by rfl)
theorem sp_Sights_add_f {s b : Int} (hS : SgAt h q sh sd rw cn fd) (hO : SgOK sh sd rw cn fd) (hc : cn = 8) : Sp xs m_Sights_add [vR q, vI s, vI b] h (some (vI 0)) h := by
  refine en_Sights_add ?_
  refine r_aload_n cd_Sights_add_0 rfl ?_
  refine r_getfield cd_Sights_add_1 hS.1 rfl ?_
  refine r_if_lt cd_Sights_add_4 ⟨by omega, by omega⟩ (fun c_4 => ?_) (fun c_4 => ?_)
  · skip
    refine r_iconst cd_Sights_add_31 ?_
    exact r_zretc cd_Sights_add_32 rt_Sights_add (by decide) (by first | rfl | omega | (split <;> first | rfl | omega)) (by rfl)
  · skip
    refine r_aload_n cd_Sights_add_7 rfl ?_
    refine r_getfield cd_Sights_add_8 hS.1 rfl ?_
    refine r_aload_n cd_Sights_add_11 rfl ?_
    refine r_getfield cd_Sights_add_12 hS.1 rfl ?_
    refine r_arraylength (N := 8) cd_Sights_add_15 hS.2.1 (by rw [hO.1]; rfl) ?_
    refine r_icmp_ge cd_Sights_add_16 ⟨by omega, by omega⟩ ⟨by omega, by omega⟩ (fun c_16 => ?_) (fun c_16 => ?_)
    · skip
      refine r_iconst cd_Sights_add_31 ?_
      exact r_zretc cd_Sights_add_32 rt_Sights_add (by decide) (by first | rfl | omega | (split <;> first | rfl | omega)) (by rfl)
    · skip
      refine r_aload_n cd_Sights_add_19 rfl ?_
      refine r_getfield cd_Sights_add_20 hS.1 rfl ?_
      refine r_aload_n cd_Sights_add_23 rfl ?_
      refine r_getfield cd_Sights_add_24 hS.1 rfl ?_
      refine r_arraylength (N := 8) cd_Sights_add_27 hS.2.2.1 (by rw [hO.2.1]; rfl) ?_
      refine r_icmp_lt cd_Sights_add_28 ⟨by omega, by omega⟩ ⟨by omega, by omega⟩ (fun c_28 => ?_) (fun c_28 => ?_)
      · skip
        omega
      · skip
        refine r_iconst cd_Sights_add_31 ?_
        exact r_zretc cd_Sights_add_32 rt_Sights_add (by decide) (by first | rfl | omega | (split <;> first | rfl | omega)) (by rfl)
theorem sp_Sights_add_t {s b : Int} (hS : SgAt h q sh sd rw cn fd) (hO : SgOK sh sd rw cn fd) (hc : cn < 8) (hb : b = 0 ∨ b = 1) : Sp xs m_Sights_add [vR q, vI s, vI b] h (some (vI 1)) (((h.set (q + 1) (.inr (0, sh.set cn.toNat s))).set (q + 2) (.inr (0, sd.set cn.toNat b))).set q (sobj q (cn + 1) fd)) := by
  have c0 := hO.2.2.2.1
  have e1 : b ≠ 0 → b = 1 := by omega
  refine en_Sights_add ?_
  refine r_aload_n cd_Sights_add_0 rfl ?_
  refine r_getfield cd_Sights_add_1 hS.1 rfl ?_
  refine r_if_lt cd_Sights_add_4 ⟨by omega, by omega⟩ (fun c_4 => ?_) (fun c_4 => ?_)
  · skip
    omega
  · skip
    refine r_aload_n cd_Sights_add_7 rfl ?_
    refine r_getfield cd_Sights_add_8 hS.1 rfl ?_
    refine r_aload_n cd_Sights_add_11 rfl ?_
    refine r_getfield cd_Sights_add_12 hS.1 rfl ?_
    refine r_arraylength (N := 8) cd_Sights_add_15 hS.2.1 (by rw [hO.1]; rfl) ?_
    refine r_icmp_ge cd_Sights_add_16 ⟨by omega, by omega⟩ ⟨by omega, by omega⟩ (fun c_16 => ?_) (fun c_16 => ?_)
    · skip
      omega
    · skip
      refine r_aload_n cd_Sights_add_19 rfl ?_
      refine r_getfield cd_Sights_add_20 hS.1 rfl ?_
      refine r_aload_n cd_Sights_add_23 rfl ?_
      refine r_getfield cd_Sights_add_24 hS.1 rfl ?_
      refine r_arraylength (N := 8) cd_Sights_add_27 hS.2.2.1 (by rw [hO.2.1]; rfl) ?_
      refine r_icmp_lt cd_Sights_add_28 ⟨by omega, by omega⟩ ⟨by omega, by omega⟩ (fun c_28 => ?_) (fun c_28 => ?_)
      · skip
        refine r_aload_n cd_Sights_add_33 rfl ?_
        refine r_getfield cd_Sights_add_34 hS.1 rfl ?_
        refine r_aload_n cd_Sights_add_37 rfl ?_
        refine r_getfield cd_Sights_add_38 hS.1 rfl ?_
        refine r_iload_n cd_Sights_add_41 rfl ?_
        refine r_iastore (N := 8) cd_Sights_add_42 hS.2.1 (by rw [hO.1]; rfl) (by omega) (by omega) (by omega) ?_
        refine r_aload_n cd_Sights_add_43 rfl ?_
        refine r_getfield cd_Sights_add_44 (gs_ne (by omega) hS.1) rfl ?_
        refine r_aload_n cd_Sights_add_47 rfl ?_
        refine r_getfield cd_Sights_add_48 (gs_ne (by omega) hS.1) rfl ?_
        refine r_iload_n cd_Sights_add_51 rfl ?_
        refine r_if_eq cd_Sights_add_52 ⟨by omega, by omega⟩ (fun c_52 => ?_) (fun c_52 => ?_)
        · skip
          refine r_iconst cd_Sights_add_59 ?_
          refine r_iastore (N := 8) cd_Sights_add_60 (gs_ne (by omega) hS.2.2.1) (by rw [hO.2.1]; rfl) (by omega) (by omega) (by omega) ?_
          refine r_aload_n cd_Sights_add_61 rfl ?_
          refine r_dup cd_Sights_add_62 rfl ?_
          refine r_getfield cd_Sights_add_63 (gs_ne (by omega) (gs_ne (by omega) hS.1)) rfl ?_
          refine r_iconst cd_Sights_add_66 ?_
          refine r_iadd cd_Sights_add_67 ?_
          refine r_putfield cd_Sights_add_68 (gs_ne (by omega) (gs_ne (by omega) hS.1)) (Nat.le_of_ble_eq_true rfl) rfl ?_
          refine r_iconst cd_Sights_add_71 ?_
          exact r_zretc cd_Sights_add_72 rt_Sights_add (by decide) (by first | rfl | omega | (split <;> first | rfl | omega)) (by first | (rw [c_52]; rfl) | (rw [e1 c_52]; rfl))
        · skip
          refine r_iconst cd_Sights_add_55 ?_
          refine r_goto cd_Sights_add_56 ?_
          refine r_iastore (N := 8) cd_Sights_add_60 (gs_ne (by omega) hS.2.2.1) (by rw [hO.2.1]; rfl) (by omega) (by omega) (by omega) ?_
          refine r_aload_n cd_Sights_add_61 rfl ?_
          refine r_dup cd_Sights_add_62 rfl ?_
          refine r_getfield cd_Sights_add_63 (gs_ne (by omega) (gs_ne (by omega) hS.1)) rfl ?_
          refine r_iconst cd_Sights_add_66 ?_
          refine r_iadd cd_Sights_add_67 ?_
          refine r_putfield cd_Sights_add_68 (gs_ne (by omega) (gs_ne (by omega) hS.1)) (Nat.le_of_ble_eq_true rfl) rfl ?_
          refine r_iconst cd_Sights_add_71 ?_
          exact r_zretc cd_Sights_add_72 rt_Sights_add (by decide) (by first | rfl | omega | (split <;> first | rfl | omega)) (by first | (rw [c_52]; rfl) | (rw [e1 c_52]; rfl))
      · skip
        omega
theorem sp_rowFound {i : Int} (hS : SgAt h q sh sd rw cn fd) (hO : SgOK sh sd rw cn fd) (hi : inR i) : Sp xs m_Sights_rowFound [vR q, vI i] h (some (vI (if 0 ≤ i ∧ i < fd then at_ rw i else -6))) h := by
  obtain ⟨i0, i1⟩ := hi
  have f0 := hO.2.2.2.2.2.2.1
  refine en_Sights_rowFound ?_
  refine r_iload_n cd_Sights_rowFound_0 rfl ?_
  refine r_if_lt cd_Sights_rowFound_1 ⟨by omega, by omega⟩ (fun c_1 => ?_) (fun c_1 => ?_)
  · skip
    refine r_bipush cd_Sights_rowFound_30 ?_
    exact r_iret cd_Sights_rowFound_32 rt_Sights_rowFound (by first | (rw [if_pos (by omega)]; done) | (rw [if_neg (by omega)]; done)) (by rfl)
  · skip
    refine r_iload_n cd_Sights_rowFound_4 rfl ?_
    refine r_aload_n cd_Sights_rowFound_5 rfl ?_
    refine r_getfield cd_Sights_rowFound_6 hS.1 rfl ?_
    refine r_icmp_ge cd_Sights_rowFound_9 ⟨by omega, by omega⟩ ⟨by omega, by omega⟩ (fun c_9 => ?_) (fun c_9 => ?_)
    · skip
      refine r_bipush cd_Sights_rowFound_30 ?_
      exact r_iret cd_Sights_rowFound_32 rt_Sights_rowFound (by first | (rw [if_pos (by omega)]; done) | (rw [if_neg (by omega)]; done)) (by rfl)
    · skip
      refine r_iload_n cd_Sights_rowFound_12 rfl ?_
      refine r_aload_n cd_Sights_rowFound_13 rfl ?_
      refine r_getfield cd_Sights_rowFound_14 hS.1 rfl ?_
      refine r_arraylength (N := 30) cd_Sights_rowFound_17 hS.2.2.2 (by rw [hO.2.2.1]; rfl) ?_
      refine r_icmp_ge cd_Sights_rowFound_18 ⟨by omega, by omega⟩ ⟨by omega, by omega⟩ (fun c_18 => ?_) (fun c_18 => ?_)
      · skip
        refine r_bipush cd_Sights_rowFound_30 ?_
        exact r_iret cd_Sights_rowFound_32 rt_Sights_rowFound (by first | (rw [if_pos (by omega)]; done) | (rw [if_neg (by omega)]; done)) (by rfl)
      · skip
        refine r_aload_n cd_Sights_rowFound_21 rfl ?_
        refine r_getfield cd_Sights_rowFound_22 hS.1 rfl ?_
        refine r_iload_n cd_Sights_rowFound_25 rfl ?_
        refine r_iaload (N := 30) cd_Sights_rowFound_26 hS.2.2.2 (by rw [hO.2.2.1]; rfl) (by omega) (by omega) (by omega) ?_
        refine r_goto cd_Sights_rowFound_27 ?_
        exact r_iret cd_Sights_rowFound_32 rt_Sights_rowFound (by first | (rw [if_pos (by omega)]; done) | (rw [if_neg (by omega)]; done)) (by rfl)
theorem sp_sideBy {row shot : Int} (h0 : 0 ≤ row) (h1 : row < 80) (s0 : 0 ≤ shot) (s1 : shot ≤ 60) : Sp xs m_Sights_sideBy [vI row, vI shot] h (some (vI (sdb row shot))) h := by
  have e1 : row.tdiv 16 = row / 16 := Int.tdiv_eq_ediv_of_nonneg h0
  have e2 : shot.tmod (row / 16) = shot % (row / 16) := Int.tmod_eq_emod_of_nonneg s0
  have key : ∀ x2, x2 = row / 16 → Rn xs m_Sights_sideBy 5 [vI row, vI shot, vI x2] [] h (some (vI (sdb row shot))) h := by
    intro x2 h2
    subst h2
    refine r_iload_n cd_Sights_sideBy_5 rfl ?_
    refine r_iconst cd_Sights_sideBy_6 ?_
    refine r_icmp_ge cd_Sights_sideBy_7 ⟨by omega, by omega⟩ ⟨by decide, by decide⟩ (fun c_7 => ?_) (fun c_7 => ?_)
    · skip
      refine r_iload_n cd_Sights_sideBy_12 rfl ?_
      refine r_iload_n cd_Sights_sideBy_13 rfl ?_
      refine r_iload_n cd_Sights_sideBy_14 rfl ?_
      refine r_irem cd_Sights_sideBy_15 ⟨by omega, by omega⟩ ⟨by omega, by omega⟩ (by omega) ?_
      refine r_ishr cd_Sights_sideBy_16 ?_
      refine r_iconst cd_Sights_sideBy_17 ?_
      refine r_iand cd_Sights_sideBy_18 ?_
      exact r_iret cd_Sights_sideBy_19 rt_Sights_sideBy (by unfold sdb; rw [if_neg (by omega), e2]) (by rfl)
    · skip
      refine r_iconst cd_Sights_sideBy_10 ?_
      exact r_iret cd_Sights_sideBy_11 rt_Sights_sideBy (by unfold sdb; rw [if_pos c_7]) (by rfl)
  refine en_Sights_sideBy ?_
  refine r_iload_n cd_Sights_sideBy_0 rfl ?_
  refine r_bipush cd_Sights_sideBy_1 ?_
  refine r_idiv cd_Sights_sideBy_3 ⟨by omega, by omega⟩ ⟨by decide, by decide⟩ (by decide) ?_
  refine r_istoren3_2 cd_Sights_sideBy_4 rfl ?_
  exact key _ e1
def irB (row : Int) : Bool := decide (row % 16 < bShl 1 (row / 16))
theorem ir_k : ∀ n : Nat, n < 5 → 0 < bShl 1 (n : Int) ∧ bShl 1 (n : Int) ≤ 16 := by decide +kernel
theorem sp_isRow {row : Int} (h0 : 0 ≤ row) (h1 : row < 80) : Sp xs m_Sights_isRow [vI row] h (some (vI (bp (irB row = true)))) h := by
  have e1 : row.tdiv 16 = row / 16 := Int.tdiv_eq_ediv_of_nonneg h0
  have e2 : row.tmod 16 = row % 16 := Int.tmod_eq_emod_of_nonneg h0
  have hb := ir_k (row / 16).toNat (by omega)
  rw [show (((row / 16).toNat : Nat) : Int) = row / 16 by omega] at hb
  refine en_Sights_isRow ?_
  refine r_iload_n cd_Sights_isRow_0 rfl ?_
  refine r_bipush cd_Sights_isRow_1 ?_
  refine r_irem cd_Sights_isRow_3 ⟨by omega, by omega⟩ ⟨by decide, by decide⟩ (by decide) ?_
  refine r_iconst cd_Sights_isRow_4 ?_
  refine r_iload_n cd_Sights_isRow_5 rfl ?_
  refine r_bipush cd_Sights_isRow_6 ?_
  refine r_idiv cd_Sights_isRow_8 ⟨by omega, by omega⟩ ⟨by decide, by decide⟩ (by decide) ?_
  refine r_ishl cd_Sights_isRow_9 ?_
  refine r_icmp_ge cd_Sights_isRow_10 ⟨by first | omega | (rw [e2]; omega) | (rw [e1]; omega), by first | omega | (rw [e2]; omega) | (rw [e1]; omega)⟩ ⟨by first | omega | (rw [e2]; omega) | (rw [e1]; omega), by first | omega | (rw [e2]; omega) | (rw [e1]; omega)⟩ (fun c_10 => ?_) (fun c_10 => ?_)
  · skip
    refine r_iconst cd_Sights_isRow_17 ?_
    exact r_zret cd_Sights_isRow_18 rt_Sights_isRow (by (rw [e1, e2] at c_10; unfold irB; first | (rw [bp_t (decide_eq_true c_10)]; done) | (rw [bp_f (fun z => by have := of_decide_eq_true z; omega)]; done))) (by rfl)
  · skip
    refine r_iconst cd_Sights_isRow_13 ?_
    refine r_goto cd_Sights_isRow_14 ?_
    exact r_zret cd_Sights_isRow_18 rt_Sights_isRow (by (rw [e1, e2] at c_10; unfold irB; first | (rw [bp_t (decide_eq_true c_10)]; done) | (rw [bp_f (fun z => by have := of_decide_eq_true z; omega)]; done))) (by rfl)
def faB (sh sd : List Int) (cn row : Int) : Nat → Int → Bool
  | 0, _ => true
  | k + 1, i => if cn ≤ i then true else decide (sdb row (at_ sh i) = at_ sd i) && faB sh sd cn row k (i + 1)
theorem lp_fitsAll {row : Int} (hS : SgAt h q sh sd rw cn fd) (hO : SgOK sh sd rw cn fd) (h0 : 0 ≤ row) (h1 : row < 80) : ∀ (k : Nat) (i : Int), 0 ≤ i → i + k = 8 → Rn xs m_Sights_fitsAll 2 [vR q, vI row, vI i] [] h (some (vI (bp (faB sh sd cn row k i = true)))) h := by
  intro k
  have c0 := hO.2.2.2.1
  induction k with
  | zero =>
    intro i i0 i1
    refine r_iload_n cd_Sights_fitsAll_2 rfl ?_
    refine r_aload_n cd_Sights_fitsAll_3 rfl ?_
    refine r_getfield cd_Sights_fitsAll_4 hS.1 rfl ?_
    refine r_icmp_ge cd_Sights_fitsAll_7 ⟨by omega, by omega⟩ ⟨by omega, by omega⟩ (fun c_7 => ?_) (fun c_7 => ?_)
    · skip
      refine r_iconst cd_Sights_fitsAll_55 ?_
      exact r_zret cd_Sights_fitsAll_56 rt_Sights_fitsAll (by (rw [bp_t (by unfold faB; rfl)])) (by rfl)
    · skip
      refine r_iload_n cd_Sights_fitsAll_10 rfl ?_
      refine r_aload_n cd_Sights_fitsAll_11 rfl ?_
      refine r_getfield cd_Sights_fitsAll_12 hS.1 rfl ?_
      refine r_arraylength (N := 8) cd_Sights_fitsAll_15 hS.2.1 (by rw [hO.1]; rfl) ?_
      refine r_icmp_ge cd_Sights_fitsAll_16 ⟨by omega, by omega⟩ ⟨by omega, by omega⟩ (fun c_16 => ?_) (fun c_16 => ?_)
      · skip
        refine r_iconst cd_Sights_fitsAll_55 ?_
        exact r_zret cd_Sights_fitsAll_56 rt_Sights_fitsAll (by (rw [bp_t (by unfold faB; rfl)])) (by rfl)
      · skip
        omega
  | succ k ih =>
    intro i i0 i1
    have b1 := hO.2.2.2.2.1 i i0 (by omega)
    have b2 := hO.2.2.2.2.2.1 i i0 (by omega)
    have b3 := sdb_bd h0 h1 b1.1
    refine r_iload_n cd_Sights_fitsAll_2 rfl ?_
    refine r_aload_n cd_Sights_fitsAll_3 rfl ?_
    refine r_getfield cd_Sights_fitsAll_4 hS.1 rfl ?_
    refine r_icmp_ge cd_Sights_fitsAll_7 ⟨by omega, by omega⟩ ⟨by omega, by omega⟩ (fun c_7 => ?_) (fun c_7 => ?_)
    · skip
      refine r_iconst cd_Sights_fitsAll_55 ?_
      exact r_zret cd_Sights_fitsAll_56 rt_Sights_fitsAll (by first | omega | (rw [bp_t (by unfold faB; rw [if_pos (by omega)])])) (by rfl)
    · skip
      refine r_iload_n cd_Sights_fitsAll_10 rfl ?_
      refine r_aload_n cd_Sights_fitsAll_11 rfl ?_
      refine r_getfield cd_Sights_fitsAll_12 hS.1 rfl ?_
      refine r_arraylength (N := 8) cd_Sights_fitsAll_15 hS.2.1 (by rw [hO.1]; rfl) ?_
      refine r_icmp_ge cd_Sights_fitsAll_16 ⟨by omega, by omega⟩ ⟨by omega, by omega⟩ (fun c_16 => ?_) (fun c_16 => ?_)
      · skip
        refine r_iconst cd_Sights_fitsAll_55 ?_
        exact r_zret cd_Sights_fitsAll_56 rt_Sights_fitsAll (by first | omega | (rw [bp_t (by unfold faB; rw [if_pos (by omega)])])) (by rfl)
      · skip
        refine r_iload_n cd_Sights_fitsAll_19 rfl ?_
        refine r_aload_n cd_Sights_fitsAll_20 rfl ?_
        refine r_getfield cd_Sights_fitsAll_21 hS.1 rfl ?_
        refine r_arraylength (N := 8) cd_Sights_fitsAll_24 hS.2.2.1 (by rw [hO.2.1]; rfl) ?_
        refine r_icmp_ge cd_Sights_fitsAll_25 ⟨by omega, by omega⟩ ⟨by omega, by omega⟩ (fun c_25 => ?_) (fun c_25 => ?_)
        · skip
          refine r_iconst cd_Sights_fitsAll_55 ?_
          exact r_zret cd_Sights_fitsAll_56 rt_Sights_fitsAll (by first | omega | (rw [bp_t (by unfold faB; rw [if_pos (by omega)])])) (by rfl)
        · skip
          refine r_iload_n cd_Sights_fitsAll_28 rfl ?_
          refine r_aload_n cd_Sights_fitsAll_29 rfl ?_
          refine r_getfield cd_Sights_fitsAll_30 hS.1 rfl ?_
          refine r_iload_n cd_Sights_fitsAll_33 rfl ?_
          refine r_iaload (N := 8) cd_Sights_fitsAll_34 hS.2.1 (by rw [hO.1]; rfl) (by omega) (by omega) (by omega) ?_
          refine r_cv2 cd_Sights_fitsAll_35 rfl ck_Sights_fitsAll_Sights_sideBy rfl (Nat.le_of_ble_eq_true rfl) (sp_sideBy h0 h1 b1.1 b1.2) ?_
          refine r_aload_n cd_Sights_fitsAll_38 rfl ?_
          refine r_getfield cd_Sights_fitsAll_39 hS.1 rfl ?_
          refine r_iload_n cd_Sights_fitsAll_42 rfl ?_
          refine r_iaload (N := 8) cd_Sights_fitsAll_43 hS.2.2.1 (by rw [hO.2.1]; rfl) (by omega) (by omega) (by omega) ?_
          refine r_icmp_eq cd_Sights_fitsAll_44 ⟨by omega, by omega⟩ ⟨by omega, by omega⟩ (fun c_44 => ?_) (fun c_44 => ?_)
          · skip
            refine r_iinc3_2 cd_Sights_fitsAll_49 rfl ?_
            refine r_goto cd_Sights_fitsAll_52 ?_
            (have e9 := ih (i + 1) (by omega) (by omega); rw [show faB sh sd cn row (k + 1) i = faB sh sd cn row k (i + 1) by (conv => lhs; unfold faB); rw [if_neg (by omega), decide_eq_true c_44, Bool.true_and]]; exact e9)
          · skip
            refine r_iconst cd_Sights_fitsAll_47 ?_
            exact r_zret cd_Sights_fitsAll_48 rt_Sights_fitsAll (by (rw [bp_f (by unfold faB; rw [if_neg (by omega), decide_eq_false c_44, Bool.false_and]; exact Bool.false_ne_true)])) (by rfl)
theorem sp_fitsAll {row : Int} (hS : SgAt h q sh sd rw cn fd) (hO : SgOK sh sd rw cn fd) (h0 : 0 ≤ row) (h1 : row < 80) : Sp xs m_Sights_fitsAll [vR q, vI row] h (some (vI (bp (faB sh sd cn row 8 0 = true)))) h := by
  refine en_Sights_fitsAll ?_
  refine r_iconst cd_Sights_fitsAll_0 ?_
  refine r_istoren3_2 cd_Sights_fitsAll_1 rfl ?_
  exact lp_fitsAll hS hO h0 h1 8 0 (by omega) (by omega)
def mlA (rw : List Int) (fd shot : Int) : Nat → Int → Int → Int
  | 0, _, s => s
  | k + 1, i, s => if fd ≤ i then s else mlA rw fd shot k (i + 1) (s + sdb (at_ rw i) shot)
def mlf (rw : List Int) (fd shot : Int) : Int := max (mlA rw fd shot 30 0 0) (fd - mlA rw fd shot 30 0 0)
theorem lp_mostLeft {shot s9 : Int} (hS : SgAt h q sh sd rw cn fd) (hO : SgOK sh sd rw cn fd) (s0 : 0 ≤ shot) (s1 : shot ≤ 60) : ∀ (k : Nat) (i s : Int), 0 ≤ i → i + k = 30 → 0 ≤ s → s ≤ i → mlA rw fd shot k i s = s9 → Rn xs m_Sights_mostLeft 4 [vR q, vI shot, vI s, vI i] [] h (some (vI (max s9 (fd - s9)))) h := by
  intro k
  have f0 := hO.2.2.2.2.2.2.1
  induction k with
  | zero =>
    intro i s i0 i1 a0 a1 e
    unfold mlA at e
    subst e
    refine r_iload_n cd_Sights_mostLeft_4 rfl ?_
    refine r_aload_n cd_Sights_mostLeft_5 rfl ?_
    refine r_getfield cd_Sights_mostLeft_6 hS.1 rfl ?_
    refine r_icmp_ge cd_Sights_mostLeft_9 ⟨by omega, by omega⟩ ⟨by omega, by omega⟩ (fun c_9 => ?_) (fun c_9 => ?_)
    · skip
      refine r_iload_n cd_Sights_mostLeft_40 rfl ?_
      refine r_aload_n cd_Sights_mostLeft_41 rfl ?_
      refine r_getfield cd_Sights_mostLeft_42 hS.1 rfl ?_
      refine r_iload_n cd_Sights_mostLeft_45 rfl ?_
      refine r_isub cd_Sights_mostLeft_46 ?_
      refine r_cv2 cd_Sights_mostLeft_47 rfl ck_Sights_mostLeft_Math_max rfl (Nat.le_of_ble_eq_true rfl) (sp_Math_max ⟨by omega, by omega⟩ ⟨by omega, by omega⟩) ?_
      exact r_iret cd_Sights_mostLeft_50 rt_Sights_mostLeft (by first | rfl | omega | (split <;> first | rfl | omega)) (by rfl)
    · skip
      omega
  | succ k ih =>
    intro i s i0 i1 a0 a1 e
    have b1 := hO.2.2.2.2.2.2.2 i i0 (by omega)
    have b3 := sdb_bd (shot := shot) b1.1 (by omega) s0
    unfold mlA at e
    by_cases z : fd ≤ i
    · skip
      rw [if_pos z] at e
      subst e
      refine r_iload_n cd_Sights_mostLeft_4 rfl ?_
      refine r_aload_n cd_Sights_mostLeft_5 rfl ?_
      refine r_getfield cd_Sights_mostLeft_6 hS.1 rfl ?_
      refine r_icmp_ge cd_Sights_mostLeft_9 ⟨by omega, by omega⟩ ⟨by omega, by omega⟩ (fun c_9 => ?_) (fun c_9 => ?_)
      · skip
        refine r_iload_n cd_Sights_mostLeft_40 rfl ?_
        refine r_aload_n cd_Sights_mostLeft_41 rfl ?_
        refine r_getfield cd_Sights_mostLeft_42 hS.1 rfl ?_
        refine r_iload_n cd_Sights_mostLeft_45 rfl ?_
        refine r_isub cd_Sights_mostLeft_46 ?_
        refine r_cv2 cd_Sights_mostLeft_47 rfl ck_Sights_mostLeft_Math_max rfl (Nat.le_of_ble_eq_true rfl) (sp_Math_max ⟨by omega, by omega⟩ ⟨by omega, by omega⟩) ?_
        exact r_iret cd_Sights_mostLeft_50 rt_Sights_mostLeft (by first | rfl | omega | (split <;> first | rfl | omega)) (by rfl)
      · skip
        omega
    · skip
      rw [if_neg z] at e
      refine r_iload_n cd_Sights_mostLeft_4 rfl ?_
      refine r_aload_n cd_Sights_mostLeft_5 rfl ?_
      refine r_getfield cd_Sights_mostLeft_6 hS.1 rfl ?_
      refine r_icmp_ge cd_Sights_mostLeft_9 ⟨by omega, by omega⟩ ⟨by omega, by omega⟩ (fun c_9 => ?_) (fun c_9 => ?_)
      · skip
        omega
      · skip
        refine r_iload_n cd_Sights_mostLeft_12 rfl ?_
        refine r_aload_n cd_Sights_mostLeft_13 rfl ?_
        refine r_getfield cd_Sights_mostLeft_14 hS.1 rfl ?_
        refine r_arraylength (N := 30) cd_Sights_mostLeft_17 hS.2.2.2 (by rw [hO.2.2.1]; rfl) ?_
        refine r_icmp_ge cd_Sights_mostLeft_18 ⟨by omega, by omega⟩ ⟨by omega, by omega⟩ (fun c_18 => ?_) (fun c_18 => ?_)
        · skip
          omega
        · skip
          refine r_iload_n cd_Sights_mostLeft_21 rfl ?_
          refine r_aload_n cd_Sights_mostLeft_22 rfl ?_
          refine r_getfield cd_Sights_mostLeft_23 hS.1 rfl ?_
          refine r_iload_n cd_Sights_mostLeft_26 rfl ?_
          refine r_iaload (N := 30) cd_Sights_mostLeft_27 hS.2.2.2 (by rw [hO.2.2.1]; rfl) (by omega) (by omega) (by omega) ?_
          refine r_iload_n cd_Sights_mostLeft_28 rfl ?_
          refine r_cv2 cd_Sights_mostLeft_29 rfl ck_Sights_mostLeft_Sights_sideBy rfl (Nat.le_of_ble_eq_true rfl) (sp_sideBy b1.1 (by omega) s0 s1) ?_
          refine r_iadd cd_Sights_mostLeft_32 ?_
          refine r_istoren4_2 cd_Sights_mostLeft_33 rfl ?_
          refine r_iinc4_3 cd_Sights_mostLeft_34 rfl ?_
          refine r_goto cd_Sights_mostLeft_37 ?_
          exact ih (i + 1) _ (by omega) (by omega) (by omega) (by omega) e
theorem sp_mostLeft {shot : Int} (hS : SgAt h q sh sd rw cn fd) (hO : SgOK sh sd rw cn fd) (s0 : 0 ≤ shot) (s1 : shot ≤ 60) : Sp xs m_Sights_mostLeft [vR q, vI shot] h (some (vI (mlf rw fd shot))) h := by
  refine en_Sights_mostLeft ?_
  refine r_iconst cd_Sights_mostLeft_0 ?_
  refine r_istoren4_2 cd_Sights_mostLeft_1 rfl ?_
  refine r_iconst cd_Sights_mostLeft_2 ?_
  refine r_istoren4_3 cd_Sights_mostLeft_3 rfl ?_
  exact lp_mostLeft hS hO s0 s1 30 0 0 (by omega) (by omega) (by omega) (by omega) rfl
theorem mlA_bd (hO : SgOK sh sd rw cn fd) {shot : Int} (s0 : 0 ≤ shot) : ∀ (k : Nat) (i s : Int), 0 ≤ i → i + k ≤ 30 → 0 ≤ s → s ≤ i → 0 ≤ mlA rw fd shot k i s ∧ mlA rw fd shot k i s ≤ 30
  | 0, i, s, h0, h1, h2, h3 => by unfold mlA; omega
  | k + 1, i, s, h0, h1, h2, h3 => by
    have b1 := hO.2.2.2.2.2.2.2 i h0 (by omega)
    have b3 := sdb_bd (shot := shot) b1.1 (by omega) s0
    unfold mlA
    split
    · omega
    · exact mlA_bd hO s0 k (i + 1) _ (by omega) (by omega) (by omega) (by omega)
theorem mlf_bd (hO : SgOK sh sd rw cn fd) {shot : Int} (s0 : 0 ≤ shot) : 0 ≤ mlf rw fd shot ∧ mlf rw fd shot ≤ 30 := by
  have := mlA_bd hO s0 30 0 0 (by omega) (by omega) (by omega) (by omega)
  have f0 := hO.2.2.2.2.2.2.1
  unfold mlf
  omega
def bsA (rw : List Int) (fd : Int) : Nat → Int → Int → Int
  | 0, _, b => b
  | k + 1, s, b => bsA rw fd k (s + 1) (if mlf rw fd s < mlf rw fd b then s else b)
theorem lp_bestShot (hS : SgAt h q sh sd rw cn fd) (hO : SgOK sh sd rw cn fd) : ∀ (k : Nat) (s b : Int), 0 ≤ s → s + k = 61 → 0 ≤ b → b ≤ 60 → Rn xs m_Sights_bestShot 4 [vR q, vI b, vI s] [] h (some (vI (bsA rw fd k s b))) h := by
  intro k
  induction k with
  | zero =>
    intro s b h0 h1 h2 h3
    refine r_iload_n cd_Sights_bestShot_4 rfl ?_
    refine r_bipush cd_Sights_bestShot_5 ?_
    refine r_icmp_gt cd_Sights_bestShot_7 ⟨by omega, by omega⟩ ⟨by decide, by decide⟩ (fun c_7 => ?_) (fun c_7 => ?_)
    · skip
      refine r_iload_n cd_Sights_bestShot_31 rfl ?_
      exact r_iret cd_Sights_bestShot_32 rt_Sights_bestShot (by first | rfl | omega | (split <;> first | rfl | omega)) (by rfl)
    · skip
      omega
  | succ k ih =>
    intro s b h0 h1 h2 h3
    have m1 := mlf_bd hO h0
    have m2 := mlf_bd hO h2
    have e9 := ih (s + 1) (if mlf rw fd s < mlf rw fd b then s else b) (by omega) (by omega) (by split <;> omega) (by split <;> omega)
    refine r_iload_n cd_Sights_bestShot_4 rfl ?_
    refine r_bipush cd_Sights_bestShot_5 ?_
    refine r_icmp_gt cd_Sights_bestShot_7 ⟨by omega, by omega⟩ ⟨by decide, by decide⟩ (fun c_7 => ?_) (fun c_7 => ?_)
    · skip
      omega
    · skip
      refine r_aload_n cd_Sights_bestShot_10 rfl ?_
      refine r_iload_n cd_Sights_bestShot_11 rfl ?_
      refine r_vv1 cd_Sights_bestShot_12 rfl ck_Sights_bestShot_Sights_mostLeft (Nat.le_of_ble_eq_true rfl) hS.1 rfl (sp_mostLeft hS hO h0 (by omega)) ?_
      refine r_aload_n cd_Sights_bestShot_15 rfl ?_
      refine r_iload_n cd_Sights_bestShot_16 rfl ?_
      refine r_vv1 cd_Sights_bestShot_17 rfl ck_Sights_bestShot_Sights_mostLeft (Nat.le_of_ble_eq_true rfl) hS.1 rfl (sp_mostLeft hS hO h2 h3) ?_
      refine r_icmp_ge cd_Sights_bestShot_20 ⟨by omega, by omega⟩ ⟨by omega, by omega⟩ (fun c_20 => ?_) (fun c_20 => ?_)
      · skip
        refine r_iinc3_2 cd_Sights_bestShot_25 rfl ?_
        refine r_goto cd_Sights_bestShot_28 ?_
        (unfold bsA; first | (rw [if_pos c_20] at e9 ⊢; exact e9) | (rw [if_neg (by omega)] at e9 ⊢; exact e9))
      · skip
        refine r_iload_n cd_Sights_bestShot_23 rfl ?_
        refine r_istoren3_1 cd_Sights_bestShot_24 rfl ?_
        refine r_iinc3_2 cd_Sights_bestShot_25 rfl ?_
        refine r_goto cd_Sights_bestShot_28 ?_
        (unfold bsA; first | (rw [if_pos c_20] at e9 ⊢; exact e9) | (rw [if_neg (by omega)] at e9 ⊢; exact e9))
theorem sp_bestShot (hS : SgAt h q sh sd rw cn fd) (hO : SgOK sh sd rw cn fd) : Sp xs m_Sights_bestShot [vR q] h (some (vI (bsA rw fd 60 1 0))) h := by
  refine en_Sights_bestShot ?_
  refine r_iconst cd_Sights_bestShot_0 ?_
  refine r_istoren3_1 cd_Sights_bestShot_1 rfl ?_
  refine r_iconst cd_Sights_bestShot_2 ?_
  refine r_istoren3_2 cd_Sights_bestShot_3 rfl ?_
  exact lp_bestShot hS hO 60 1 0 (by omega) (by omega) (by omega) (by omega)
def cR (r : Nat) : Nat := ((List.range r).filter (fun j : Nat => decide (16 ≤ j) && irB (j : Int))).length
theorem cR_k : ∀ r : Nat, r < 80 → 16 ≤ r → (irB (r : Int) = true → cR r < 30 ∧ cR (r + 1) = cR r + 1) ∧ (cR r ≤ cR (r + 1)) := by decide +kernel
def fnA (sh sd : List Int) (cn : Int) : Nat → Int → List Int → Int → List Int × Int
  | 0, _, l, n => (l, n)
  | k + 1, row, l, n => if irB row = true ∧ faB sh sd cn row 8 0 = true then fnA sh sd cn k (row + 1) (l.set n.toNat row) (n + 1) else fnA sh sd cn k (row + 1) l n
theorem sg_set {l : List Int} {n : Int} (hS : SgAt h q sh sd rw cn fd) : SgAt ((h.set (q + 3) (.inr (0, l))).set q (sobj q cn n)) q sh sd l cn n := ⟨gs_eq (gs_ne (by omega) hS.1), gs_ne (by omega) (gs_ne (by omega) hS.2.1), gs_ne (by omega) (gs_ne (by omega) hS.2.2.1), gs_ne (by omega) (gs_eq hS.2.2.2)⟩
theorem sg_ok {row n : Int} (hO : SgOK sh sd rw cn fd) (h0 : 0 ≤ fd) (h1 : fd < 30) (r0 : 0 ≤ row) (r1 : row ≤ 79) (hn : n = fd + 1) : SgOK sh sd (rw.set fd.toNat row) cn n := by
  refine ⟨hO.1, hO.2.1, by rw [List.length_set]; exact hO.2.2.1, hO.2.2.2.1, hO.2.2.2.2.1, hO.2.2.2.2.2.1, by omega, fun j j0 j1 => ?_⟩
  rw [az_set h0 (by rw [hO.2.2.1]; exact h1) j0]
  have := hO.2.2.2.2.2.2.2 j j0 j1
  split <;> omega
theorem sg_hh {X X' Y Y' : HC} : (((((h.set (q + 3) X).set q Y).set (q + 3) X').set q Y') : MH) = (h.set (q + 3) X').set q Y' := by
  apply List.ext_getElem?
  intro j
  simp only [List.getElem?_set, List.length_set]
  (repeat' split) <;> first | rfl | omega
theorem lp_findRows : ∀ (k : Nat) (row : Int) (rw : List Int) (fd : Int) (h : MH), 16 ≤ row → row + k = 80 → SgAt h q sh sd rw cn fd → SgOK sh sd rw cn fd → fd ≤ cR row.toNat → Rn xs m_Sights_findRows 8 [vR q, vI row] [] h (some (vI (fnA sh sd cn k row rw fd).2)) ((h.set (q + 3) (.inr (0, (fnA sh sd cn k row rw fd).1))).set q (sobj q cn (fnA sh sd cn k row rw fd).2)) := by
  intro k
  induction k with
  | zero =>
    intro row rw fd h h0 h1 hS hO hc
    unfold fnA
    refine r_iload_n cd_Sights_findRows_8 rfl ?_
    refine r_bipush cd_Sights_findRows_9 ?_
    refine r_icmp_gt cd_Sights_findRows_11 ⟨by omega, by omega⟩ ⟨by decide, by decide⟩ (fun c_11 => ?_) (fun c_11 => ?_)
    · skip
      refine r_aload_n cd_Sights_findRows_74 rfl ?_
      refine r_getfield cd_Sights_findRows_75 hS.1 rfl ?_
      exact r_iret cd_Sights_findRows_78 rt_Sights_findRows (by first | rfl | omega | (split <;> first | rfl | omega)) (by (rw [set_same hS.2.2.2, set_same hS.1]))
    · skip
      omega
  | succ k ih =>
    intro row rw fd h h0 h1 hS hO hc
    have f0 := hO.2.2.2.2.2.2.1
    have ck := cR_k row.toNat (by omega) (by omega)
    rw [show ((row.toNat : Nat) : Int) = row by omega] at ck
    by_cases z : irB row = true ∧ faB sh sd cn row 8 0 = true
    · skip
      have e0 : fnA sh sd cn (k + 1) row rw fd = fnA sh sd cn k (row + 1) (rw.set fd.toNat row) (fd + 1) := by (conv => lhs; unfold fnA); rw [if_pos z]
      rw [e0]
      have c2 := (ck.1 z.1)
      have e9 := ih (row + 1) (rw.set fd.toNat row) (fd + 1) _ (by omega) (by omega) (sg_set hS) (sg_ok hO f0.1 (by omega) (by omega) (by omega) rfl) (by rw [show (row + 1).toNat = row.toNat + 1 by omega]; omega)
      rw [sg_hh] at e9
      refine r_iload_n cd_Sights_findRows_8 rfl ?_
      refine r_bipush cd_Sights_findRows_9 ?_
      refine r_icmp_gt cd_Sights_findRows_11 ⟨by omega, by omega⟩ ⟨by decide, by decide⟩ (fun c_11 => ?_) (fun c_11 => ?_)
      · skip
        omega
      · skip
        refine r_iload_n cd_Sights_findRows_14 rfl ?_
        refine r_cv1 cd_Sights_findRows_15 rfl ck_Sights_findRows_Sights_isRow rfl (Nat.le_of_ble_eq_true rfl) (sp_isRow (by omega) (by omega)) ?_
        refine r_ifeq_p cd_Sights_findRows_18 (fun c_18 => ?_) (fun c_18 => ?_)
        · skip
          refine r_iinc2_1 cd_Sights_findRows_68 rfl ?_
          refine r_goto cd_Sights_findRows_71 ?_
          first | exact e9 | exact absurd z.1 c_18 | exact absurd z.2 c_26 | omega
        · skip
          refine r_aload_n cd_Sights_findRows_21 rfl ?_
          refine r_iload_n cd_Sights_findRows_22 rfl ?_
          refine r_vv1 cd_Sights_findRows_23 rfl ck_Sights_findRows_Sights_fitsAll (Nat.le_of_ble_eq_true rfl) hS.1 rfl (sp_fitsAll hS hO (by omega) (by omega)) ?_
          refine r_ifeq_p cd_Sights_findRows_26 (fun c_26 => ?_) (fun c_26 => ?_)
          · skip
            refine r_iinc2_1 cd_Sights_findRows_68 rfl ?_
            refine r_goto cd_Sights_findRows_71 ?_
            first | exact e9 | exact absurd z.1 c_18 | exact absurd z.2 c_26 | omega
          · skip
            refine r_aload_n cd_Sights_findRows_29 rfl ?_
            refine r_getfield cd_Sights_findRows_30 hS.1 rfl ?_
            refine r_if_lt cd_Sights_findRows_33 ⟨by omega, by omega⟩ (fun c_33 => ?_) (fun c_33 => ?_)
            · skip
              refine r_iinc2_1 cd_Sights_findRows_68 rfl ?_
              refine r_goto cd_Sights_findRows_71 ?_
              first | exact e9 | exact absurd z.1 c_18 | exact absurd z.2 c_26 | omega
            · skip
              refine r_aload_n cd_Sights_findRows_36 rfl ?_
              refine r_getfield cd_Sights_findRows_37 hS.1 rfl ?_
              refine r_aload_n cd_Sights_findRows_40 rfl ?_
              refine r_getfield cd_Sights_findRows_41 hS.1 rfl ?_
              refine r_arraylength (N := 30) cd_Sights_findRows_44 hS.2.2.2 (by rw [hO.2.2.1]; rfl) ?_
              refine r_icmp_ge cd_Sights_findRows_45 ⟨by omega, by omega⟩ ⟨by omega, by omega⟩ (fun c_45 => ?_) (fun c_45 => ?_)
              · skip
                refine r_iinc2_1 cd_Sights_findRows_68 rfl ?_
                refine r_goto cd_Sights_findRows_71 ?_
                first | exact e9 | exact absurd z.1 c_18 | exact absurd z.2 c_26 | omega
              · skip
                refine r_aload_n cd_Sights_findRows_48 rfl ?_
                refine r_getfield cd_Sights_findRows_49 hS.1 rfl ?_
                refine r_aload_n cd_Sights_findRows_52 rfl ?_
                refine r_getfield cd_Sights_findRows_53 hS.1 rfl ?_
                refine r_iload_n cd_Sights_findRows_56 rfl ?_
                refine r_iastore (N := 30) cd_Sights_findRows_57 hS.2.2.2 (by rw [hO.2.2.1]; rfl) (by omega) (by omega) (by omega) ?_
                refine r_aload_n cd_Sights_findRows_58 rfl ?_
                refine r_dup cd_Sights_findRows_59 rfl ?_
                refine r_getfield cd_Sights_findRows_60 (gs_ne (by omega) hS.1) rfl ?_
                refine r_iconst cd_Sights_findRows_63 ?_
                refine r_iadd cd_Sights_findRows_64 ?_
                refine r_putfield cd_Sights_findRows_65 (gs_ne (by omega) hS.1) (Nat.le_of_ble_eq_true rfl) rfl ?_
                refine r_iinc2_1 cd_Sights_findRows_68 rfl ?_
                refine r_goto cd_Sights_findRows_71 ?_
                first | exact e9 | exact absurd z.1 c_18 | exact absurd z.2 c_26 | omega
    · skip
      have e0 : fnA sh sd cn (k + 1) row rw fd = fnA sh sd cn k (row + 1) rw fd := by (conv => lhs; unfold fnA); rw [if_neg z]
      rw [e0]
      have e9 := ih (row + 1) rw fd h (by omega) (by omega) hS hO (by rw [show (row + 1).toNat = row.toNat + 1 by omega]; omega)
      refine r_iload_n cd_Sights_findRows_8 rfl ?_
      refine r_bipush cd_Sights_findRows_9 ?_
      refine r_icmp_gt cd_Sights_findRows_11 ⟨by omega, by omega⟩ ⟨by decide, by decide⟩ (fun c_11 => ?_) (fun c_11 => ?_)
      · skip
        omega
      · skip
        refine r_iload_n cd_Sights_findRows_14 rfl ?_
        refine r_cv1 cd_Sights_findRows_15 rfl ck_Sights_findRows_Sights_isRow rfl (Nat.le_of_ble_eq_true rfl) (sp_isRow (by omega) (by omega)) ?_
        refine r_ifeq_p cd_Sights_findRows_18 (fun c_18 => ?_) (fun c_18 => ?_)
        · skip
          refine r_iinc2_1 cd_Sights_findRows_68 rfl ?_
          refine r_goto cd_Sights_findRows_71 ?_
          exact e9
        · skip
          refine r_aload_n cd_Sights_findRows_21 rfl ?_
          refine r_iload_n cd_Sights_findRows_22 rfl ?_
          refine r_vv1 cd_Sights_findRows_23 rfl ck_Sights_findRows_Sights_fitsAll (Nat.le_of_ble_eq_true rfl) hS.1 rfl (sp_fitsAll hS hO (by omega) (by omega)) ?_
          refine r_ifeq_p cd_Sights_findRows_26 (fun c_26 => ?_) (fun c_26 => ?_)
          · skip
            refine r_iinc2_1 cd_Sights_findRows_68 rfl ?_
            refine r_goto cd_Sights_findRows_71 ?_
            exact e9
          · skip
            exact absurd ⟨c_18, c_26⟩ z
theorem sp_findRows (hS : SgAt h q sh sd rw cn fd) (hO : SgOK sh sd rw cn fd) : Sp xs m_Sights_findRows [vR q] h (some (vI (fnA sh sd cn 64 16 rw 0).2)) ((h.set (q + 3) (.inr (0, (fnA sh sd cn 64 16 rw 0).1))).set q (sobj q cn (fnA sh sd cn 64 16 rw 0).2)) := by
  have e9 := lp_findRows (xs := xs) 64 16 rw 0 _ (by omega) (by omega) (sg_set (l := rw) (n := 0) hS) ⟨hO.1, hO.2.1, hO.2.2.1, hO.2.2.2.1, hO.2.2.2.2.1, hO.2.2.2.2.2.1, by omega, hO.2.2.2.2.2.2.2⟩ (by omega)
  rw [sg_hh, set_same hS.2.2.2] at e9
  refine en_Sights_findRows ?_
  refine r_aload_n cd_Sights_findRows_0 rfl ?_
  refine r_iconst cd_Sights_findRows_1 ?_
  refine r_putfield cd_Sights_findRows_2 hS.1 (Nat.le_of_ble_eq_true rfl) rfl ?_
  refine r_bipush cd_Sights_findRows_5 ?_
  refine r_istoren2_1 cd_Sights_findRows_7 rfl ?_
  exact e9
theorem sp_Sights_copyFrom {p : Nat} {sh' sd' rw' : List Int} {cn' fd' : Int} (hn : q + 4 ≤ p ∨ p + 4 ≤ q) (hS : SgAt h q sh sd rw cn fd) (hO : SgOK sh sd rw cn fd) (hP : SgAt h p sh' sd' rw' cn' fd') (hO' : SgOK sh' sd' rw' cn' fd') : Sp xs m_Sights_copyFrom [vR q, vR p] h none (((h.set q (sobj q cn' fd)).set (q + 1) (.inr (0, sh'))).set (q + 2) (.inr (0, sd'))) := by
  have a1 : (h.set q (sobj q cn' fd))[q]? = some (sobj q cn' fd) := gs_eq hS.1
  have a2 : (h.set q (sobj q cn' fd))[p]? = some (sobj p cn' fd') := gs_ne (by omega) hP.1
  have a3 : (h.set q (sobj q cn' fd))[q + 1]? = some (.inr (0, sh)) := gs_ne (by omega) hS.2.1
  have a4 : (h.set q (sobj q cn' fd))[p + 1]? = some (.inr (0, sh')) := gs_ne (by omega) hP.2.1
  have b1 := gs_ne (p := q + 1) (c := .inr (0, sh')) (by omega) a1
  have b2 := gs_ne (p := q + 1) (c := .inr (0, sh')) (by omega) a2
  have b3 : ((h.set q (sobj q cn' fd)).set (q + 1) (.inr (0, sh')))[q + 2]? = some (.inr (0, sd)) := gs_ne (by omega) (gs_ne (by omega) hS.2.2.1)
  have b4 : ((h.set q (sobj q cn' fd)).set (q + 1) (.inr (0, sh')))[p + 2]? = some (.inr (0, sd')) := gs_ne (by omega) (gs_ne (by omega) hP.2.2.1)
  have tailB : Rn xs m_Sights_copyFrom 24 [vR q, vR p] [] ((h.set q (sobj q cn' fd)).set (q + 1) (.inr (0, sh'))) none (((h.set q (sobj q cn' fd)).set (q + 1) (.inr (0, sh'))).set (q + 2) (.inr (0, sd'))) := by
    refine r_aload_n cd_Sights_copyFrom_24 rfl ?_
    refine r_getfield cd_Sights_copyFrom_25 b2 rfl ?_
    refine r_aload_n cd_Sights_copyFrom_28 rfl ?_
    refine r_getfield cd_Sights_copyFrom_29 b1 rfl ?_
    refine r_cz2 cd_Sights_copyFrom_32 rfl ck_Sights_copyFrom_F_copyRow rfl (Nat.le_of_ble_eq_true rfl) (sp_copyRow (n := 8) (by omega) (by omega) b4 b3 hO'.2.1 hO.2.1) ?_
    exact r_vret cd_Sights_copyFrom_35 rt_Sights_copyFrom (by rfl)
  have tailA : Rn xs m_Sights_copyFrom 13 [vR q, vR p] [] (h.set q (sobj q cn' fd)) none (((h.set q (sobj q cn' fd)).set (q + 1) (.inr (0, sh'))).set (q + 2) (.inr (0, sd'))) := by
    refine r_aload_n cd_Sights_copyFrom_13 rfl ?_
    refine r_getfield cd_Sights_copyFrom_14 a2 rfl ?_
    refine r_aload_n cd_Sights_copyFrom_17 rfl ?_
    refine r_getfield cd_Sights_copyFrom_18 a1 rfl ?_
    refine r_cz2 cd_Sights_copyFrom_21 rfl ck_Sights_copyFrom_F_copyRow rfl (Nat.le_of_ble_eq_true rfl) (sp_copyRow (n := 8) (by omega) (by omega) a4 a3 hO'.1 hO.1) ?_
    exact tailB
  refine en_Sights_copyFrom ?_
  refine r_aload_n cd_Sights_copyFrom_0 rfl ?_
  refine r_ifnonnull cd_Sights_copyFrom_1 ?_
  refine r_aload_n cd_Sights_copyFrom_5 rfl ?_
  refine r_aload_n cd_Sights_copyFrom_6 rfl ?_
  refine r_getfield cd_Sights_copyFrom_7 hP.1 rfl ?_
  refine r_putfield cd_Sights_copyFrom_10 hS.1 (Nat.le_of_ble_eq_true rfl) rfl ?_
  exact tailA
end C42
