-- a new reference
section C84
variable {xs : List Int} {c : Nat → HC}
def rf0 : MH := rf 0 0 0 0 0 0 0 0 w00 (List.replicate 21 0) (List.replicate 16 0) (List.replicate 60 0) (List.replicate 40 0) (List.replicate 16 0) (List.replicate 16 0) (List.replicate 121 0) (List.replicate 80 0) (List.replicate 2 0)
theorem mL8 : Rn xs m_M_init 85 [vR 40, vI 8] [] (z40 c (rf 0 0 0 0 0 0 0 0 [20, 12, 8, 4, 4, 8, 12, 20, 0, 0, 0, 0, 0, 0, 0, 0, 0, 0, 0, 0, 0] (List.replicate 21 0) (List.replicate 16 0) (List.replicate 60 0) (List.replicate 40 0) (List.replicate 16 0) (List.replicate 16 0) (List.replicate 121 0) (List.replicate 80 0) (List.replicate 2 0))) none (z40 c rf0) := by
  refine r_iload_n cd_M_init_85 rfl ?_
  refine r_bipush cd_M_init_86 ?_
  refine r_icmp_ge cd_M_init_88 ⟨by decide, by decide⟩ ⟨by decide, by decide⟩ (fun _ => ?_) (fun c_88 => absurd c_88 (by decide))
  refine r_aload_n cd_M_init_109 rfl ?_
  refine r_getfield cd_M_init_110 zr_O rfl ?_
  refine r_bipush cd_M_init_113 ?_
  refine r_bipush cd_M_init_115 ?_
  refine r_iastore (N := 21) cd_M_init_117 zr_B rfl (by omega) (by omega) (by omega) ?_
  refine r_aload_n cd_M_init_118 rfl ?_
  refine r_getfield cd_M_init_119 (gs_ne (by omega) zr_O) rfl ?_
  refine r_bipush cd_M_init_122 ?_
  refine r_bipush cd_M_init_124 ?_
  refine r_iastore (N := 21) cd_M_init_126 (gs_eq zr_B) (lset rfl) (by omega) (by omega) (by omega) ?_
  exact r_vret cd_M_init_127 rt_M_init (by (simp only [List.set_set]; rfl))
theorem mL7 : Rn xs m_M_init 85 [vR 40, vI 7] [] (z40 c (rf 0 0 0 0 0 0 0 0 [20, 12, 8, 4, 4, 8, 12, 0, 0, 0, 0, 0, 0, 0, 0, 0, 0, 0, 0, 0, 0] (List.replicate 21 0) (List.replicate 16 0) (List.replicate 60 0) (List.replicate 40 0) (List.replicate 16 0) (List.replicate 16 0) (List.replicate 121 0) (List.replicate 80 0) (List.replicate 2 0))) none (z40 c rf0) := by
  have e : (wid 7).tdiv 2 = 20 := by decide
  refine r_iload_n cd_M_init_85 rfl ?_
  refine r_bipush cd_M_init_86 ?_
  refine r_icmp_ge cd_M_init_88 ⟨by decide, by decide⟩ ⟨by decide, by decide⟩ (fun c_88 => absurd c_88 (by decide)) (fun _ => ?_)
  refine r_aload_n cd_M_init_91 rfl ?_
  refine r_getfield cd_M_init_92 zr_O rfl ?_
  refine r_iload_n cd_M_init_95 rfl ?_
  refine r_iload_n cd_M_init_96 rfl ?_
  refine r_cv1 cd_M_init_97 rfl ck_M_init_M_widest rfl (Nat.le_of_ble_eq_true rfl) (sp_M_widest (by decide) (by decide)) ?_
  refine r_iconst cd_M_init_100 ?_
  refine r_idiv cd_M_init_101 ⟨by decide, by decide⟩ ⟨by decide, by decide⟩ (by decide) ?_
  refine r_iastore (N := 21) cd_M_init_102 zr_B rfl (by omega) (by omega) (by omega) ?_
  refine r_iinc2_1 cd_M_init_103 rfl ?_
  refine r_goto cd_M_init_106 ?_
  (rw [e]; exact mL8)
theorem mL6 : Rn xs m_M_init 85 [vR 40, vI 6] [] (z40 c (rf 0 0 0 0 0 0 0 0 [20, 12, 8, 4, 4, 8, 0, 0, 0, 0, 0, 0, 0, 0, 0, 0, 0, 0, 0, 0, 0] (List.replicate 21 0) (List.replicate 16 0) (List.replicate 60 0) (List.replicate 40 0) (List.replicate 16 0) (List.replicate 16 0) (List.replicate 121 0) (List.replicate 80 0) (List.replicate 2 0))) none (z40 c rf0) := by
  have e : (wid 6).tdiv 2 = 12 := by decide
  refine r_iload_n cd_M_init_85 rfl ?_
  refine r_bipush cd_M_init_86 ?_
  refine r_icmp_ge cd_M_init_88 ⟨by decide, by decide⟩ ⟨by decide, by decide⟩ (fun c_88 => absurd c_88 (by decide)) (fun _ => ?_)
  refine r_aload_n cd_M_init_91 rfl ?_
  refine r_getfield cd_M_init_92 zr_O rfl ?_
  refine r_iload_n cd_M_init_95 rfl ?_
  refine r_iload_n cd_M_init_96 rfl ?_
  refine r_cv1 cd_M_init_97 rfl ck_M_init_M_widest rfl (Nat.le_of_ble_eq_true rfl) (sp_M_widest (by decide) (by decide)) ?_
  refine r_iconst cd_M_init_100 ?_
  refine r_idiv cd_M_init_101 ⟨by decide, by decide⟩ ⟨by decide, by decide⟩ (by decide) ?_
  refine r_iastore (N := 21) cd_M_init_102 zr_B rfl (by omega) (by omega) (by omega) ?_
  refine r_iinc2_1 cd_M_init_103 rfl ?_
  refine r_goto cd_M_init_106 ?_
  (rw [e]; exact mL7)
theorem mL5 : Rn xs m_M_init 85 [vR 40, vI 5] [] (z40 c (rf 0 0 0 0 0 0 0 0 [20, 12, 8, 4, 4, 0, 0, 0, 0, 0, 0, 0, 0, 0, 0, 0, 0, 0, 0, 0, 0] (List.replicate 21 0) (List.replicate 16 0) (List.replicate 60 0) (List.replicate 40 0) (List.replicate 16 0) (List.replicate 16 0) (List.replicate 121 0) (List.replicate 80 0) (List.replicate 2 0))) none (z40 c rf0) := by
  have e : (wid 5).tdiv 2 = 8 := by decide
  refine r_iload_n cd_M_init_85 rfl ?_
  refine r_bipush cd_M_init_86 ?_
  refine r_icmp_ge cd_M_init_88 ⟨by decide, by decide⟩ ⟨by decide, by decide⟩ (fun c_88 => absurd c_88 (by decide)) (fun _ => ?_)
  refine r_aload_n cd_M_init_91 rfl ?_
  refine r_getfield cd_M_init_92 zr_O rfl ?_
  refine r_iload_n cd_M_init_95 rfl ?_
  refine r_iload_n cd_M_init_96 rfl ?_
  refine r_cv1 cd_M_init_97 rfl ck_M_init_M_widest rfl (Nat.le_of_ble_eq_true rfl) (sp_M_widest (by decide) (by decide)) ?_
  refine r_iconst cd_M_init_100 ?_
  refine r_idiv cd_M_init_101 ⟨by decide, by decide⟩ ⟨by decide, by decide⟩ (by decide) ?_
  refine r_iastore (N := 21) cd_M_init_102 zr_B rfl (by omega) (by omega) (by omega) ?_
  refine r_iinc2_1 cd_M_init_103 rfl ?_
  refine r_goto cd_M_init_106 ?_
  (rw [e]; exact mL6)
theorem mL4 : Rn xs m_M_init 85 [vR 40, vI 4] [] (z40 c (rf 0 0 0 0 0 0 0 0 [20, 12, 8, 4, 0, 0, 0, 0, 0, 0, 0, 0, 0, 0, 0, 0, 0, 0, 0, 0, 0] (List.replicate 21 0) (List.replicate 16 0) (List.replicate 60 0) (List.replicate 40 0) (List.replicate 16 0) (List.replicate 16 0) (List.replicate 121 0) (List.replicate 80 0) (List.replicate 2 0))) none (z40 c rf0) := by
  have e : (wid 4).tdiv 2 = 4 := by decide
  refine r_iload_n cd_M_init_85 rfl ?_
  refine r_bipush cd_M_init_86 ?_
  refine r_icmp_ge cd_M_init_88 ⟨by decide, by decide⟩ ⟨by decide, by decide⟩ (fun c_88 => absurd c_88 (by decide)) (fun _ => ?_)
  refine r_aload_n cd_M_init_91 rfl ?_
  refine r_getfield cd_M_init_92 zr_O rfl ?_
  refine r_iload_n cd_M_init_95 rfl ?_
  refine r_iload_n cd_M_init_96 rfl ?_
  refine r_cv1 cd_M_init_97 rfl ck_M_init_M_widest rfl (Nat.le_of_ble_eq_true rfl) (sp_M_widest (by decide) (by decide)) ?_
  refine r_iconst cd_M_init_100 ?_
  refine r_idiv cd_M_init_101 ⟨by decide, by decide⟩ ⟨by decide, by decide⟩ (by decide) ?_
  refine r_iastore (N := 21) cd_M_init_102 zr_B rfl (by omega) (by omega) (by omega) ?_
  refine r_iinc2_1 cd_M_init_103 rfl ?_
  refine r_goto cd_M_init_106 ?_
  (rw [e]; exact mL5)
theorem mL3 : Rn xs m_M_init 85 [vR 40, vI 3] [] (z40 c (rf 0 0 0 0 0 0 0 0 [20, 12, 8, 0, 0, 0, 0, 0, 0, 0, 0, 0, 0, 0, 0, 0, 0, 0, 0, 0, 0] (List.replicate 21 0) (List.replicate 16 0) (List.replicate 60 0) (List.replicate 40 0) (List.replicate 16 0) (List.replicate 16 0) (List.replicate 121 0) (List.replicate 80 0) (List.replicate 2 0))) none (z40 c rf0) := by
  have e : (wid 3).tdiv 2 = 4 := by decide
  refine r_iload_n cd_M_init_85 rfl ?_
  refine r_bipush cd_M_init_86 ?_
  refine r_icmp_ge cd_M_init_88 ⟨by decide, by decide⟩ ⟨by decide, by decide⟩ (fun c_88 => absurd c_88 (by decide)) (fun _ => ?_)
  refine r_aload_n cd_M_init_91 rfl ?_
  refine r_getfield cd_M_init_92 zr_O rfl ?_
  refine r_iload_n cd_M_init_95 rfl ?_
  refine r_iload_n cd_M_init_96 rfl ?_
  refine r_cv1 cd_M_init_97 rfl ck_M_init_M_widest rfl (Nat.le_of_ble_eq_true rfl) (sp_M_widest (by decide) (by decide)) ?_
  refine r_iconst cd_M_init_100 ?_
  refine r_idiv cd_M_init_101 ⟨by decide, by decide⟩ ⟨by decide, by decide⟩ (by decide) ?_
  refine r_iastore (N := 21) cd_M_init_102 zr_B rfl (by omega) (by omega) (by omega) ?_
  refine r_iinc2_1 cd_M_init_103 rfl ?_
  refine r_goto cd_M_init_106 ?_
  (rw [e]; exact mL4)
theorem mL2 : Rn xs m_M_init 85 [vR 40, vI 2] [] (z40 c (rf 0 0 0 0 0 0 0 0 [20, 12, 0, 0, 0, 0, 0, 0, 0, 0, 0, 0, 0, 0, 0, 0, 0, 0, 0, 0, 0] (List.replicate 21 0) (List.replicate 16 0) (List.replicate 60 0) (List.replicate 40 0) (List.replicate 16 0) (List.replicate 16 0) (List.replicate 121 0) (List.replicate 80 0) (List.replicate 2 0))) none (z40 c rf0) := by
  have e : (wid 2).tdiv 2 = 8 := by decide
  refine r_iload_n cd_M_init_85 rfl ?_
  refine r_bipush cd_M_init_86 ?_
  refine r_icmp_ge cd_M_init_88 ⟨by decide, by decide⟩ ⟨by decide, by decide⟩ (fun c_88 => absurd c_88 (by decide)) (fun _ => ?_)
  refine r_aload_n cd_M_init_91 rfl ?_
  refine r_getfield cd_M_init_92 zr_O rfl ?_
  refine r_iload_n cd_M_init_95 rfl ?_
  refine r_iload_n cd_M_init_96 rfl ?_
  refine r_cv1 cd_M_init_97 rfl ck_M_init_M_widest rfl (Nat.le_of_ble_eq_true rfl) (sp_M_widest (by decide) (by decide)) ?_
  refine r_iconst cd_M_init_100 ?_
  refine r_idiv cd_M_init_101 ⟨by decide, by decide⟩ ⟨by decide, by decide⟩ (by decide) ?_
  refine r_iastore (N := 21) cd_M_init_102 zr_B rfl (by omega) (by omega) (by omega) ?_
  refine r_iinc2_1 cd_M_init_103 rfl ?_
  refine r_goto cd_M_init_106 ?_
  (rw [e]; exact mL3)
theorem mL1 : Rn xs m_M_init 85 [vR 40, vI 1] [] (z40 c (rf 0 0 0 0 0 0 0 0 [20, 0, 0, 0, 0, 0, 0, 0, 0, 0, 0, 0, 0, 0, 0, 0, 0, 0, 0, 0, 0] (List.replicate 21 0) (List.replicate 16 0) (List.replicate 60 0) (List.replicate 40 0) (List.replicate 16 0) (List.replicate 16 0) (List.replicate 121 0) (List.replicate 80 0) (List.replicate 2 0))) none (z40 c rf0) := by
  have e : (wid 1).tdiv 2 = 12 := by decide
  refine r_iload_n cd_M_init_85 rfl ?_
  refine r_bipush cd_M_init_86 ?_
  refine r_icmp_ge cd_M_init_88 ⟨by decide, by decide⟩ ⟨by decide, by decide⟩ (fun c_88 => absurd c_88 (by decide)) (fun _ => ?_)
  refine r_aload_n cd_M_init_91 rfl ?_
  refine r_getfield cd_M_init_92 zr_O rfl ?_
  refine r_iload_n cd_M_init_95 rfl ?_
  refine r_iload_n cd_M_init_96 rfl ?_
  refine r_cv1 cd_M_init_97 rfl ck_M_init_M_widest rfl (Nat.le_of_ble_eq_true rfl) (sp_M_widest (by decide) (by decide)) ?_
  refine r_iconst cd_M_init_100 ?_
  refine r_idiv cd_M_init_101 ⟨by decide, by decide⟩ ⟨by decide, by decide⟩ (by decide) ?_
  refine r_iastore (N := 21) cd_M_init_102 zr_B rfl (by omega) (by omega) (by omega) ?_
  refine r_iinc2_1 cd_M_init_103 rfl ?_
  refine r_goto cd_M_init_106 ?_
  (rw [e]; exact mL2)
theorem mL0 : Rn xs m_M_init 85 [vR 40, vI 0] [] (z40 c (rf 0 0 0 0 0 0 0 0 [0, 0, 0, 0, 0, 0, 0, 0, 0, 0, 0, 0, 0, 0, 0, 0, 0, 0, 0, 0, 0] (List.replicate 21 0) (List.replicate 16 0) (List.replicate 60 0) (List.replicate 40 0) (List.replicate 16 0) (List.replicate 16 0) (List.replicate 121 0) (List.replicate 80 0) (List.replicate 2 0))) none (z40 c rf0) := by
  have e : (wid 0).tdiv 2 = 20 := by decide
  refine r_iload_n cd_M_init_85 rfl ?_
  refine r_bipush cd_M_init_86 ?_
  refine r_icmp_ge cd_M_init_88 ⟨by decide, by decide⟩ ⟨by decide, by decide⟩ (fun c_88 => absurd c_88 (by decide)) (fun _ => ?_)
  refine r_aload_n cd_M_init_91 rfl ?_
  refine r_getfield cd_M_init_92 zr_O rfl ?_
  refine r_iload_n cd_M_init_95 rfl ?_
  refine r_iload_n cd_M_init_96 rfl ?_
  refine r_cv1 cd_M_init_97 rfl ck_M_init_M_widest rfl (Nat.le_of_ble_eq_true rfl) (sp_M_widest (by decide) (by decide)) ?_
  refine r_iconst cd_M_init_100 ?_
  refine r_idiv cd_M_init_101 ⟨by decide, by decide⟩ ⟨by decide, by decide⟩ (by decide) ?_
  refine r_iastore (N := 21) cd_M_init_102 zr_B rfl (by omega) (by omega) (by omega) ?_
  refine r_iinc2_1 cd_M_init_103 rfl ?_
  refine r_goto cd_M_init_106 ?_
  (rw [e]; exact mL1)
theorem mA9 : Rn xs m_M_init 76 [vR 40, vU] [] (z40 c [.inl (8, (((((((((dfC 8).set 0 (vR 41)).set 1 (vR 42)).set 3 (vR 43)).set 5 (vR 44)).set 12 (vR 45)).set 13 (vR 46)).set 14 (vR 47)).set 15 (vR 48)).set 16 (vR 49)), .inr (0, List.replicate 21 0), .inr (0, List.replicate 21 0), .inr (0, List.replicate 16 0), .inr (0, List.replicate 60 0), .inr (0, List.replicate 40 0), .inr (0, List.replicate 16 0), .inr (0, List.replicate 16 0), .inr (1, List.replicate 121 0), .inr (0, List.replicate 80 0)]) none (z40 c rf0) := by
  have q : (z40 c [.inl (8, (((((((((dfC 8).set 0 (vR 41)).set 1 (vR 42)).set 3 (vR 43)).set 5 (vR 44)).set 12 (vR 45)).set 13 (vR 46)).set 14 (vR 47)).set 15 (vR 48)).set 16 (vR 49)), .inr (0, List.replicate 21 0), .inr (0, List.replicate 21 0), .inr (0, List.replicate 16 0), .inr (0, List.replicate 60 0), .inr (0, List.replicate 40 0), .inr (0, List.replicate 16 0), .inr (0, List.replicate 16 0), .inr (1, List.replicate 121 0), .inr (0, List.replicate 80 0)] ++ [.inr (2, List.replicate 2 0)])[40]? = some (.inl (8, (((((((((dfC 8).set 0 (vR 41)).set 1 (vR 42)).set 3 (vR 43)).set 5 (vR 44)).set 12 (vR 45)).set 13 (vR 46)).set 14 (vR 47)).set 15 (vR 48)).set 16 (vR 49))) := rfl
  refine r_aload_n cd_M_init_76 rfl ?_
  refine r_iconst cd_M_init_77 ?_
  refine r_newarray_boolean cd_M_init_78 (by decide) (by decide) ?_
  refine r_putfield cd_M_init_80 q (Nat.le_of_ble_eq_true rfl) rfl ?_
  refine r_iconst cd_M_init_83 ?_
  refine r_istoren2_1 cd_M_init_84 rfl ?_
  exact mL0
theorem mA8 : Rn xs m_M_init 68 [vR 40, vU] [] (z40 c [.inl (8, ((((((((dfC 8).set 0 (vR 41)).set 1 (vR 42)).set 3 (vR 43)).set 5 (vR 44)).set 12 (vR 45)).set 13 (vR 46)).set 14 (vR 47)).set 15 (vR 48)), .inr (0, List.replicate 21 0), .inr (0, List.replicate 21 0), .inr (0, List.replicate 16 0), .inr (0, List.replicate 60 0), .inr (0, List.replicate 40 0), .inr (0, List.replicate 16 0), .inr (0, List.replicate 16 0), .inr (1, List.replicate 121 0)]) none (z40 c rf0) := by
  have q : (z40 c [.inl (8, ((((((((dfC 8).set 0 (vR 41)).set 1 (vR 42)).set 3 (vR 43)).set 5 (vR 44)).set 12 (vR 45)).set 13 (vR 46)).set 14 (vR 47)).set 15 (vR 48)), .inr (0, List.replicate 21 0), .inr (0, List.replicate 21 0), .inr (0, List.replicate 16 0), .inr (0, List.replicate 60 0), .inr (0, List.replicate 40 0), .inr (0, List.replicate 16 0), .inr (0, List.replicate 16 0), .inr (1, List.replicate 121 0)] ++ [.inr (0, List.replicate 80 0)])[40]? = some (.inl (8, ((((((((dfC 8).set 0 (vR 41)).set 1 (vR 42)).set 3 (vR 43)).set 5 (vR 44)).set 12 (vR 45)).set 13 (vR 46)).set 14 (vR 47)).set 15 (vR 48))) := rfl
  refine r_aload_n cd_M_init_68 rfl ?_
  refine r_bipush cd_M_init_69 ?_
  refine r_newarray_int cd_M_init_71 (by decide) (by decide) ?_
  refine r_putfield cd_M_init_73 q (Nat.le_of_ble_eq_true rfl) rfl ?_
  exact mA9
theorem mA7 : Rn xs m_M_init 60 [vR 40, vU] [] (z40 c [.inl (8, (((((((dfC 8).set 0 (vR 41)).set 1 (vR 42)).set 3 (vR 43)).set 5 (vR 44)).set 12 (vR 45)).set 13 (vR 46)).set 14 (vR 47)), .inr (0, List.replicate 21 0), .inr (0, List.replicate 21 0), .inr (0, List.replicate 16 0), .inr (0, List.replicate 60 0), .inr (0, List.replicate 40 0), .inr (0, List.replicate 16 0), .inr (0, List.replicate 16 0)]) none (z40 c rf0) := by
  have q : (z40 c [.inl (8, (((((((dfC 8).set 0 (vR 41)).set 1 (vR 42)).set 3 (vR 43)).set 5 (vR 44)).set 12 (vR 45)).set 13 (vR 46)).set 14 (vR 47)), .inr (0, List.replicate 21 0), .inr (0, List.replicate 21 0), .inr (0, List.replicate 16 0), .inr (0, List.replicate 60 0), .inr (0, List.replicate 40 0), .inr (0, List.replicate 16 0), .inr (0, List.replicate 16 0)] ++ [.inr (1, List.replicate 121 0)])[40]? = some (.inl (8, (((((((dfC 8).set 0 (vR 41)).set 1 (vR 42)).set 3 (vR 43)).set 5 (vR 44)).set 12 (vR 45)).set 13 (vR 46)).set 14 (vR 47))) := rfl
  refine r_aload_n cd_M_init_60 rfl ?_
  refine r_bipush cd_M_init_61 ?_
  refine r_newarray_long cd_M_init_63 (by decide) (by decide) ?_
  refine r_putfield cd_M_init_65 q (Nat.le_of_ble_eq_true rfl) rfl ?_
  exact mA8
theorem mA6 : Rn xs m_M_init 52 [vR 40, vU] [] (z40 c [.inl (8, ((((((dfC 8).set 0 (vR 41)).set 1 (vR 42)).set 3 (vR 43)).set 5 (vR 44)).set 12 (vR 45)).set 13 (vR 46)), .inr (0, List.replicate 21 0), .inr (0, List.replicate 21 0), .inr (0, List.replicate 16 0), .inr (0, List.replicate 60 0), .inr (0, List.replicate 40 0), .inr (0, List.replicate 16 0)]) none (z40 c rf0) := by
  have q : (z40 c [.inl (8, ((((((dfC 8).set 0 (vR 41)).set 1 (vR 42)).set 3 (vR 43)).set 5 (vR 44)).set 12 (vR 45)).set 13 (vR 46)), .inr (0, List.replicate 21 0), .inr (0, List.replicate 21 0), .inr (0, List.replicate 16 0), .inr (0, List.replicate 60 0), .inr (0, List.replicate 40 0), .inr (0, List.replicate 16 0)] ++ [.inr (0, List.replicate 16 0)])[40]? = some (.inl (8, ((((((dfC 8).set 0 (vR 41)).set 1 (vR 42)).set 3 (vR 43)).set 5 (vR 44)).set 12 (vR 45)).set 13 (vR 46))) := rfl
  refine r_aload_n cd_M_init_52 rfl ?_
  refine r_bipush cd_M_init_53 ?_
  refine r_newarray_int cd_M_init_55 (by decide) (by decide) ?_
  refine r_putfield cd_M_init_57 q (Nat.le_of_ble_eq_true rfl) rfl ?_
  exact mA7
theorem mA5 : Rn xs m_M_init 44 [vR 40, vU] [] (z40 c [.inl (8, (((((dfC 8).set 0 (vR 41)).set 1 (vR 42)).set 3 (vR 43)).set 5 (vR 44)).set 12 (vR 45)), .inr (0, List.replicate 21 0), .inr (0, List.replicate 21 0), .inr (0, List.replicate 16 0), .inr (0, List.replicate 60 0), .inr (0, List.replicate 40 0)]) none (z40 c rf0) := by
  have q : (z40 c [.inl (8, (((((dfC 8).set 0 (vR 41)).set 1 (vR 42)).set 3 (vR 43)).set 5 (vR 44)).set 12 (vR 45)), .inr (0, List.replicate 21 0), .inr (0, List.replicate 21 0), .inr (0, List.replicate 16 0), .inr (0, List.replicate 60 0), .inr (0, List.replicate 40 0)] ++ [.inr (0, List.replicate 16 0)])[40]? = some (.inl (8, (((((dfC 8).set 0 (vR 41)).set 1 (vR 42)).set 3 (vR 43)).set 5 (vR 44)).set 12 (vR 45))) := rfl
  refine r_aload_n cd_M_init_44 rfl ?_
  refine r_bipush cd_M_init_45 ?_
  refine r_newarray_int cd_M_init_47 (by decide) (by decide) ?_
  refine r_putfield cd_M_init_49 q (Nat.le_of_ble_eq_true rfl) rfl ?_
  exact mA6
theorem mA4 : Rn xs m_M_init 36 [vR 40, vU] [] (z40 c [.inl (8, ((((dfC 8).set 0 (vR 41)).set 1 (vR 42)).set 3 (vR 43)).set 5 (vR 44)), .inr (0, List.replicate 21 0), .inr (0, List.replicate 21 0), .inr (0, List.replicate 16 0), .inr (0, List.replicate 60 0)]) none (z40 c rf0) := by
  have q : (z40 c [.inl (8, ((((dfC 8).set 0 (vR 41)).set 1 (vR 42)).set 3 (vR 43)).set 5 (vR 44)), .inr (0, List.replicate 21 0), .inr (0, List.replicate 21 0), .inr (0, List.replicate 16 0), .inr (0, List.replicate 60 0)] ++ [.inr (0, List.replicate 40 0)])[40]? = some (.inl (8, ((((dfC 8).set 0 (vR 41)).set 1 (vR 42)).set 3 (vR 43)).set 5 (vR 44))) := rfl
  refine r_aload_n cd_M_init_36 rfl ?_
  refine r_bipush cd_M_init_37 ?_
  refine r_newarray_int cd_M_init_39 (by decide) (by decide) ?_
  refine r_putfield cd_M_init_41 q (Nat.le_of_ble_eq_true rfl) rfl ?_
  exact mA5
theorem mA3 : Rn xs m_M_init 28 [vR 40, vU] [] (z40 c [.inl (8, (((dfC 8).set 0 (vR 41)).set 1 (vR 42)).set 3 (vR 43)), .inr (0, List.replicate 21 0), .inr (0, List.replicate 21 0), .inr (0, List.replicate 16 0)]) none (z40 c rf0) := by
  have q : (z40 c [.inl (8, (((dfC 8).set 0 (vR 41)).set 1 (vR 42)).set 3 (vR 43)), .inr (0, List.replicate 21 0), .inr (0, List.replicate 21 0), .inr (0, List.replicate 16 0)] ++ [.inr (0, List.replicate 60 0)])[40]? = some (.inl (8, (((dfC 8).set 0 (vR 41)).set 1 (vR 42)).set 3 (vR 43))) := rfl
  refine r_aload_n cd_M_init_28 rfl ?_
  refine r_bipush cd_M_init_29 ?_
  refine r_newarray_int cd_M_init_31 (by decide) (by decide) ?_
  refine r_putfield cd_M_init_33 q (Nat.le_of_ble_eq_true rfl) rfl ?_
  exact mA4
theorem mA2 : Rn xs m_M_init 20 [vR 40, vU] [] (z40 c [.inl (8, ((dfC 8).set 0 (vR 41)).set 1 (vR 42)), .inr (0, List.replicate 21 0), .inr (0, List.replicate 21 0)]) none (z40 c rf0) := by
  have q : (z40 c [.inl (8, ((dfC 8).set 0 (vR 41)).set 1 (vR 42)), .inr (0, List.replicate 21 0), .inr (0, List.replicate 21 0)] ++ [.inr (0, List.replicate 16 0)])[40]? = some (.inl (8, ((dfC 8).set 0 (vR 41)).set 1 (vR 42))) := rfl
  refine r_aload_n cd_M_init_20 rfl ?_
  refine r_bipush cd_M_init_21 ?_
  refine r_newarray_int cd_M_init_23 (by decide) (by decide) ?_
  refine r_putfield cd_M_init_25 q (Nat.le_of_ble_eq_true rfl) rfl ?_
  exact mA3
theorem mA1 : Rn xs m_M_init 12 [vR 40, vU] [] (z40 c [.inl (8, (dfC 8).set 0 (vR 41)), .inr (0, List.replicate 21 0)]) none (z40 c rf0) := by
  have q : (z40 c [.inl (8, (dfC 8).set 0 (vR 41)), .inr (0, List.replicate 21 0)] ++ [.inr (0, List.replicate 21 0)])[40]? = some (.inl (8, (dfC 8).set 0 (vR 41))) := rfl
  refine r_aload_n cd_M_init_12 rfl ?_
  refine r_bipush cd_M_init_13 ?_
  refine r_newarray_int cd_M_init_15 (by decide) (by decide) ?_
  refine r_putfield cd_M_init_17 q (Nat.le_of_ble_eq_true rfl) rfl ?_
  exact mA2
theorem mA0 : Rn xs m_M_init 4 [vR 40, vU] [] (z40 c [.inl (8, dfC 8)]) none (z40 c rf0) := by
  have q : (z40 c [.inl (8, dfC 8)] ++ [.inr (0, List.replicate 21 0)])[40]? = some (.inl (8, dfC 8)) := rfl
  refine r_aload_n cd_M_init_4 rfl ?_
  refine r_bipush cd_M_init_5 ?_
  refine r_newarray_int cd_M_init_7 (by decide) (by decide) ?_
  refine r_putfield cd_M_init_9 q (Nat.le_of_ble_eq_true rfl) rfl ?_
  exact mA1
theorem sp_M_init : Sp xs m_M_init [vR 40] (z40 c [.inl (8, dfC 8)]) none (z40 c rf0) := by
  refine en_M_init ?_
  refine r_aload_n cd_M_init_0 rfl ?_
  refine r_obj cd_M_init_1 rfl (by decide +kernel) (by decide +kernel) (Nat.le_of_ble_eq_true rfl) ?_
  exact mA0
end C84
