-- mix, race and hands of the class
section C56
variable {xs : List Int} {h : MH}
def mixR (a b c d w p : Int) : Int := if ((0 ≤ a ∧ a ≤ 10) ∧ (0 ≤ b ∧ b ≤ 10) ∧ (0 ≤ c ∧ c ≤ 10) ∧ (0 ≤ d ∧ d ≤ 10) ∧ (w = 0 ∨ w = 1) ∧ (p = 0 ∨ p = 1)) then mxd a b c d w p else -1000000000000000002
theorem sp_F_mix {q : Nat} {a b c d w p : Int} (ha : inR a) (hb : inR b) (hc : inR c) (hd : inR d) (hw : inR w) (hp : inR p) : Sp xs m_F_mix [vR q, vI a, vI b, vI c, vI d, vI w, vI p] h (some (vL (mixR a b c d w p))) h := by
  unfold mixR
  refine en_F_mix ?_
  refine r_iload_n cd_F_mix_0 rfl ?_
  refine r_cv1 cd_F_mix_1 rfl ck_F_mix_F_isTenths rfl (Nat.le_of_ble_eq_true rfl) (sp_isTenths ha) ?_
  refine r_ifeq_p cd_F_mix_4 (fun c_4 => ?_) (fun c_4 => ?_)
  · skip
    refine r_ldc2_w cd_F_mix_29 ?_
    exact r_lret cd_F_mix_32 rt_F_mix (by (rw [if_neg (fun z => by obtain ⟨z1, z2, z3, z4, z5, z6⟩ := z; first | exact c_4 z1 | exact c_11 z2 | exact c_18 z3 | exact c_26 z4)])) (by rfl)
  · skip
    refine r_iload_n cd_F_mix_7 rfl ?_
    refine r_cv1 cd_F_mix_8 rfl ck_F_mix_F_isTenths rfl (Nat.le_of_ble_eq_true rfl) (sp_isTenths hb) ?_
    refine r_ifeq_p cd_F_mix_11 (fun c_11 => ?_) (fun c_11 => ?_)
    · skip
      refine r_ldc2_w cd_F_mix_29 ?_
      exact r_lret cd_F_mix_32 rt_F_mix (by (rw [if_neg (fun z => by obtain ⟨z1, z2, z3, z4, z5, z6⟩ := z; first | exact c_4 z1 | exact c_11 z2 | exact c_18 z3 | exact c_26 z4)])) (by rfl)
    · skip
      refine r_iload_n cd_F_mix_14 rfl ?_
      refine r_cv1 cd_F_mix_15 rfl ck_F_mix_F_isTenths rfl (Nat.le_of_ble_eq_true rfl) (sp_isTenths hc) ?_
      refine r_ifeq_p cd_F_mix_18 (fun c_18 => ?_) (fun c_18 => ?_)
      · skip
        refine r_ldc2_w cd_F_mix_29 ?_
        exact r_lret cd_F_mix_32 rt_F_mix (by (rw [if_neg (fun z => by obtain ⟨z1, z2, z3, z4, z5, z6⟩ := z; first | exact c_4 z1 | exact c_11 z2 | exact c_18 z3 | exact c_26 z4)])) (by rfl)
      · skip
        refine r_iload cd_F_mix_21 rfl ?_
        refine r_cv1 cd_F_mix_23 rfl ck_F_mix_F_isTenths rfl (Nat.le_of_ble_eq_true rfl) (sp_isTenths hd) ?_
        refine r_ifne_p cd_F_mix_26 (fun c_26 => ?_) (fun c_26 => ?_)
        · skip
          refine r_iload cd_F_mix_33 rfl ?_
          refine r_cv1 cd_F_mix_35 rfl ck_F_mix_F_isBit rfl (Nat.le_of_ble_eq_true rfl) (sp_isBit hw) ?_
          refine r_ifeq_p cd_F_mix_38 (fun c_38 => ?_) (fun c_38 => ?_)
          · skip
            refine r_ldc2_w cd_F_mix_49 ?_
            exact r_lret cd_F_mix_52 rt_F_mix (by (rw [if_neg (fun z => by obtain ⟨z1, z2, z3, z4, z5, z6⟩ := z; first | exact c_38 z5 | exact c_46 z6)])) (by rfl)
          · skip
            refine r_iload cd_F_mix_41 rfl ?_
            refine r_cv1 cd_F_mix_43 rfl ck_F_mix_F_isBit rfl (Nat.le_of_ble_eq_true rfl) (sp_isBit hp) ?_
            refine r_ifne_p cd_F_mix_46 (fun c_46 => ?_) (fun c_46 => ?_)
            · skip
              refine r_iload_n cd_F_mix_53 rfl ?_
              refine r_iload_n cd_F_mix_54 rfl ?_
              refine r_iload_n cd_F_mix_55 rfl ?_
              refine r_iload cd_F_mix_56 rfl ?_
              refine r_iload cd_F_mix_58 rfl ?_
              refine r_iload cd_F_mix_60 rfl ?_
              refine r_cv6 cd_F_mix_62 rfl ck_F_mix_Chances_mixed rfl (Nat.le_of_ble_eq_true rfl) (sp_mixed c_4 c_11 c_18 c_26 c_38 c_46) ?_
              exact r_lret cd_F_mix_65 rt_F_mix (by (rw [if_pos ⟨c_4, c_11, c_18, c_26, c_38, c_46⟩])) (by rfl)
            · skip
              refine r_ldc2_w cd_F_mix_49 ?_
              exact r_lret cd_F_mix_52 rt_F_mix (by (rw [if_neg (fun z => by obtain ⟨z1, z2, z3, z4, z5, z6⟩ := z; first | exact c_38 z5 | exact c_46 z6)])) (by rfl)
        · skip
          refine r_ldc2_w cd_F_mix_29 ?_
          exact r_lret cd_F_mix_32 rt_F_mix (by (rw [if_neg (fun z => by obtain ⟨z1, z2, z3, z4, z5, z6⟩ := z; first | exact c_4 z1 | exact c_11 z2 | exact c_18 z3 | exact c_26 z4)])) (by rfl)
def racR (a b t p : Int) : Int := if ((0 ≤ a ∧ a ≤ 9) ∧ (0 ≤ b ∧ b ≤ 9) ∧ (0 ≤ t ∧ t ≤ 10) ∧ (p = 0 ∨ p = 1)) then (if a = 0 ∧ b = 0 then -1000000000000000003 else prt (wrA (10 - a) (10 - b) t (10 - b).toNat 0 0 1) (pwA 10 (10 - a + (10 - b) - 1).toNat 1) p) else -1000000000000000002
theorem sp_F_race {q : Nat} {a b t p : Int} (ha : inR a) (hb : inR b) (ht : inR t) (hp : inR p) : Sp xs m_F_race [vR q, vI a, vI b, vI t, vI p] h (some (vL (racR a b t p))) h := by
  unfold racR
  have ha2 := ha
  obtain ⟨a1, a2⟩ := ha2
  have hb2 := hb
  obtain ⟨b1, b2⟩ := hb2
  refine en_F_race ?_
  refine r_iload_n cd_F_race_0 rfl ?_
  refine r_iconst cd_F_race_1 ?_
  refine r_bipush cd_F_race_2 ?_
  refine r_cv3 cd_F_race_4 rfl ck_F_race_F_isWithin rfl (Nat.le_of_ble_eq_true rfl) (sp_isWithin ha ⟨by decide, by decide⟩ ⟨by decide, by decide⟩) ?_
  refine r_ifeq_p cd_F_race_7 (fun c_7 => ?_) (fun c_7 => ?_)
  · skip
    refine r_ldc2_w cd_F_race_20 ?_
    exact r_lret cd_F_race_23 rt_F_race (by (rw [if_neg (fun z => by obtain ⟨z1, z2, z3, z4⟩ := z; first | exact c_7 z1 | exact c_17 z2)])) (by rfl)
  · skip
    refine r_iload_n cd_F_race_10 rfl ?_
    refine r_iconst cd_F_race_11 ?_
    refine r_bipush cd_F_race_12 ?_
    refine r_cv3 cd_F_race_14 rfl ck_F_race_F_isWithin rfl (Nat.le_of_ble_eq_true rfl) (sp_isWithin hb ⟨by decide, by decide⟩ ⟨by decide, by decide⟩) ?_
    refine r_ifne_p cd_F_race_17 (fun c_17 => ?_) (fun c_17 => ?_)
    · skip
      refine r_iload_n cd_F_race_24 rfl ?_
      refine r_cv1 cd_F_race_25 rfl ck_F_race_F_isTenths rfl (Nat.le_of_ble_eq_true rfl) (sp_isTenths ht) ?_
      refine r_ifeq_p cd_F_race_28 (fun c_28 => ?_) (fun c_28 => ?_)
      · skip
        refine r_ldc2_w cd_F_race_39 ?_
        exact r_lret cd_F_race_42 rt_F_race (by (rw [if_neg (fun z => by obtain ⟨z1, z2, z3, z4⟩ := z; first | exact c_28 z3 | exact c_36 z4)])) (by rfl)
      · skip
        refine r_iload cd_F_race_31 rfl ?_
        refine r_cv1 cd_F_race_33 rfl ck_F_race_F_isBit rfl (Nat.le_of_ble_eq_true rfl) (sp_isBit hp) ?_
        refine r_ifne_p cd_F_race_36 (fun c_36 => ?_) (fun c_36 => ?_)
        · skip
          refine r_iload_n cd_F_race_43 rfl ?_
          refine r_if_ne cd_F_race_44 ⟨by omega, by omega⟩ (fun c_44 => ?_) (fun c_44 => ?_)
          · skip
            refine r_bipush cd_F_race_55 ?_
            refine r_iload_n cd_F_race_57 rfl ?_
            refine r_isub cd_F_race_58 ?_
            refine r_bipush cd_F_race_59 ?_
            refine r_iload_n cd_F_race_61 rfl ?_
            refine r_isub cd_F_race_62 ?_
            refine r_iload_n cd_F_race_63 rfl ?_
            refine r_iload cd_F_race_64 rfl ?_
            refine r_cv4 cd_F_race_66 rfl ck_F_race_Chances_winsRace rfl (Nat.le_of_ble_eq_true rfl) (sp_winsRace ⟨by omega, by omega⟩ ⟨by omega, by omega⟩ (by omega) c_28 c_36) ?_
            exact r_lret cd_F_race_69 rt_F_race (by (rw [if_pos ⟨c_7, c_17, c_28, c_36⟩, if_neg (fun z => by omega)])) (by rfl)
          · skip
            refine r_iload_n cd_F_race_47 rfl ?_
            refine r_if_ne cd_F_race_48 ⟨by omega, by omega⟩ (fun c_48 => ?_) (fun c_48 => ?_)
            · skip
              refine r_bipush cd_F_race_55 ?_
              refine r_iload_n cd_F_race_57 rfl ?_
              refine r_isub cd_F_race_58 ?_
              refine r_bipush cd_F_race_59 ?_
              refine r_iload_n cd_F_race_61 rfl ?_
              refine r_isub cd_F_race_62 ?_
              refine r_iload_n cd_F_race_63 rfl ?_
              refine r_iload cd_F_race_64 rfl ?_
              refine r_cv4 cd_F_race_66 rfl ck_F_race_Chances_winsRace rfl (Nat.le_of_ble_eq_true rfl) (sp_winsRace ⟨by omega, by omega⟩ ⟨by omega, by omega⟩ (by omega) c_28 c_36) ?_
              exact r_lret cd_F_race_69 rt_F_race (by (rw [if_pos ⟨c_7, c_17, c_28, c_36⟩, if_neg (fun z => by omega)])) (by rfl)
            · skip
              refine r_ldc2_w cd_F_race_51 ?_
              exact r_lret cd_F_race_54 rt_F_race (by (rw [if_pos ⟨c_7, c_17, c_28, c_36⟩, if_pos ⟨c_44, c_48⟩])) (by rfl)
        · skip
          refine r_ldc2_w cd_F_race_39 ?_
          exact r_lret cd_F_race_42 rt_F_race (by (rw [if_neg (fun z => by obtain ⟨z1, z2, z3, z4⟩ := z; first | exact c_28 z3 | exact c_36 z4)])) (by rfl)
    · skip
      refine r_ldc2_w cd_F_race_20 ?_
      exact r_lret cd_F_race_23 rt_F_race (by (rw [if_neg (fun z => by obtain ⟨z1, z2, z3, z4⟩ := z; first | exact c_7 z1 | exact c_17 z2)])) (by rfl)
def hanR (row n : Int) : Int := if (1 ≤ n ∧ n ≤ 9) ∧ (0 ≤ row ∧ iwA n.toNat row = true) then fwA row n n.toNat 0 0 0 else -2
theorem sp_F_hands {q : Nat} {row n : Int} (hr : inR row) (hn : inR n) : Sp xs m_F_hands [vR q, vI row, vI n] h (some (vI (hanR row n))) h := by
  unfold hanR
  refine en_F_hands ?_
  refine r_iload_n cd_F_hands_0 rfl ?_
  refine r_iconst cd_F_hands_1 ?_
  refine r_bipush cd_F_hands_2 ?_
  refine r_cv3 cd_F_hands_4 rfl ck_F_hands_F_isWithin rfl (Nat.le_of_ble_eq_true rfl) (sp_isWithin hn ⟨by decide, by decide⟩ ⟨by decide, by decide⟩) ?_
  refine r_ifeq_p cd_F_hands_7 (fun c_7 => ?_) (fun c_7 => ?_)
  · skip
    refine r_bipush cd_F_hands_18 ?_
    exact r_iret cd_F_hands_20 rt_F_hands (by (rw [if_neg (fun z => by first | exact c_7 z.1 | exact c_15 z.2)])) (by rfl)
  · skip
    refine r_iload_n cd_F_hands_10 rfl ?_
    refine r_iload_n cd_F_hands_11 rfl ?_
    refine r_cv2 cd_F_hands_12 rfl ck_F_hands_Grasps_isRow rfl (Nat.le_of_ble_eq_true rfl) (sp_Grasps_isRow hr c_7.1 c_7.2) ?_
    refine r_ifne_p cd_F_hands_15 (fun c_15 => ?_) (fun c_15 => ?_)
    · skip
      refine r_iload_n cd_F_hands_21 rfl ?_
      refine r_iload_n cd_F_hands_22 rfl ?_
      refine r_cv2 cd_F_hands_23 rfl ck_F_hands_Grasps_fewest rfl (Nat.le_of_ble_eq_true rfl) (sp_fewest c_15.1 hr.2 c_7.1 c_7.2 c_15.2) ?_
      exact r_iret cd_F_hands_26 rt_F_hands (by (rw [if_pos ⟨c_7, c_15⟩])) (by rfl)
    · skip
      refine r_bipush cd_F_hands_18 ?_
      exact r_iret cd_F_hands_20 rt_F_hands (by (rw [if_neg (fun z => by first | exact c_7 z.1 | exact c_15 z.2)])) (by rfl)
end C56
