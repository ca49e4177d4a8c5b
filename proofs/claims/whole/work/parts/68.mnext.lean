-- the reference: the next act
section C68
variable {xs : List Int} {h : MH} {v dv : List Int} {mn mc sm om ga mr ma ax : Int}
def NxR (xs : List Int) (m : Nat) (as_ : List MV) (h : MH) (v : List Int) (mn mc ga mr ma : Int) (k r n P : Int) : Prop := ∃ sm' om', Sp xs m as_ h (some (vI (why v k r n))) ((h.set 42 (.inr (0, act v k r n))).set 40 (mob mn mc sm' om' ga mr ma P))
theorem hset {X : HC} {Y : HC} : (h.set 40 X).set 42 Y = (h.set 42 Y).set 40 X := set_comm (by omega)
theorem sp_M_rodAct_0 {r b : Int} (hO : h[40]? = some (mob mn mc sm om ga mr ma ax)) (hN : h[42]? = some (.inr (0, v))) (hD : h[44]? = some (.inr (0, dv))) (hw : WF v) (hl : ((dv.length : Nat) : Int) = 60) (x0 : 0 ≤ ax) (h0 : 0 ≤ r) (h1 : r < 8) (x1 : ax + 1 < 60) (hb : at_ dv (ax + 1) = b) (e : b = 40) : NxR xs m_M_rodAct [vR 40, vI r] h v mn mc ga mr ma 0 r 0 (ax + 2) := by
  refine ⟨sm, om, ?_⟩
  have hS := sp_M_grasp (xs := xs) (n := 0) (gs_eq (c := mob mn mc sm om ga mr ma (ax + 2)) hO) (gs_ne (p := 40) (by omega) hN) hw h0 h1
  rw [hset] at hS
  refine en_M_rodAct ?_
  refine r_aload_n cd_M_rodAct_0 rfl ?_
  refine r_getfield cd_M_rodAct_1 hO rfl ?_
  refine r_aload_n cd_M_rodAct_4 rfl ?_
  refine r_getfield cd_M_rodAct_5 hO rfl ?_
  refine r_iconst cd_M_rodAct_8 ?_
  refine r_iadd cd_M_rodAct_9 ?_
  refine r_iaload (N := 60) cd_M_rodAct_10 hD hl (by omega) (by omega) (by omega) ?_
  refine r_istoren4_2 cd_M_rodAct_11 rfl ?_
  refine r_aload_n cd_M_rodAct_12 rfl ?_
  refine r_dup cd_M_rodAct_13 rfl ?_
  refine r_getfield cd_M_rodAct_14 hO rfl ?_
  refine r_iconst cd_M_rodAct_17 ?_
  refine r_iadd cd_M_rodAct_18 ?_
  refine r_putfield cd_M_rodAct_19 hO (Nat.le_of_ble_eq_true rfl) rfl ?_
  refine r_iload_n cd_M_rodAct_22 rfl ?_
  refine r_bipush cd_M_rodAct_23 ?_
  refine r_icmp_eq cd_M_rodAct_25 ⟨by omega, by omega⟩ ⟨by decide, by decide⟩ (fun c_25 => ?_) (fun c_25 => ?_)
  · skip
    refine r_iload_n cd_M_rodAct_34 rfl ?_
    refine r_bipush cd_M_rodAct_35 ?_
    refine r_icmp_ne cd_M_rodAct_37 ⟨by omega, by omega⟩ ⟨by decide, by decide⟩ (fun c_37 => ?_) (fun c_37 => ?_)
    · skip
      omega
    · skip
      refine r_aload_n cd_M_rodAct_40 rfl ?_
      refine r_iload_n cd_M_rodAct_41 rfl ?_
      refine r_vv1 cd_M_rodAct_42 rfl ck_M_rodAct_M_grasp (Nat.le_of_ble_eq_true rfl) (gs_eq hO) rfl hS ?_
      refine r_goto cd_M_rodAct_45 ?_
      exact r_iret cd_M_rodAct_53 rt_M_rodAct (by rfl) (by rfl)
  · skip
    omega
theorem sp_M_rodAct_1 {r b : Int} (hO : h[40]? = some (mob mn mc sm om ga mr ma ax)) (hN : h[42]? = some (.inr (0, v))) (hD : h[44]? = some (.inr (0, dv))) (hw : WF v) (hl : ((dv.length : Nat) : Int) = 60) (x0 : 0 ≤ ax) (h0 : 0 ≤ r) (h1 : r < 8) (x1 : ax + 1 < 60) (hb : at_ dv (ax + 1) = b) (e : b = 41) : NxR xs m_M_rodAct [vR 40, vI r] h v mn mc ga mr ma 1 r 0 (ax + 2) := by
  refine ⟨sm, om, ?_⟩
  have hS := sp_M_letGo (xs := xs) (n := 0) (gs_eq (c := mob mn mc sm om ga mr ma (ax + 2)) hO) (gs_ne (p := 40) (by omega) hN) hw h0 h1
  rw [hset] at hS
  refine en_M_rodAct ?_
  refine r_aload_n cd_M_rodAct_0 rfl ?_
  refine r_getfield cd_M_rodAct_1 hO rfl ?_
  refine r_aload_n cd_M_rodAct_4 rfl ?_
  refine r_getfield cd_M_rodAct_5 hO rfl ?_
  refine r_iconst cd_M_rodAct_8 ?_
  refine r_iadd cd_M_rodAct_9 ?_
  refine r_iaload (N := 60) cd_M_rodAct_10 hD hl (by omega) (by omega) (by omega) ?_
  refine r_istoren4_2 cd_M_rodAct_11 rfl ?_
  refine r_aload_n cd_M_rodAct_12 rfl ?_
  refine r_dup cd_M_rodAct_13 rfl ?_
  refine r_getfield cd_M_rodAct_14 hO rfl ?_
  refine r_iconst cd_M_rodAct_17 ?_
  refine r_iadd cd_M_rodAct_18 ?_
  refine r_putfield cd_M_rodAct_19 hO (Nat.le_of_ble_eq_true rfl) rfl ?_
  refine r_iload_n cd_M_rodAct_22 rfl ?_
  refine r_bipush cd_M_rodAct_23 ?_
  refine r_icmp_eq cd_M_rodAct_25 ⟨by omega, by omega⟩ ⟨by decide, by decide⟩ (fun c_25 => ?_) (fun c_25 => ?_)
  · skip
    refine r_iload_n cd_M_rodAct_34 rfl ?_
    refine r_bipush cd_M_rodAct_35 ?_
    refine r_icmp_ne cd_M_rodAct_37 ⟨by omega, by omega⟩ ⟨by decide, by decide⟩ (fun c_37 => ?_) (fun c_37 => ?_)
    · skip
      refine r_aload_n cd_M_rodAct_48 rfl ?_
      refine r_iload_n cd_M_rodAct_49 rfl ?_
      refine r_vv1 cd_M_rodAct_50 rfl ck_M_rodAct_M_letGo (Nat.le_of_ble_eq_true rfl) (gs_eq hO) rfl hS ?_
      exact r_iret cd_M_rodAct_53 rt_M_rodAct (by rfl) (by rfl)
    · skip
      refine r_aload_n cd_M_rodAct_40 rfl ?_
      omega
  · skip
    refine r_iload_n cd_M_rodAct_28 rfl ?_
    refine r_bipush cd_M_rodAct_29 ?_
    refine r_icmp_ne cd_M_rodAct_31 ⟨by omega, by omega⟩ ⟨by decide, by decide⟩ (fun c_31 => ?_) (fun c_31 => ?_)
    · skip
      omega
    · skip
      refine r_iload_n cd_M_rodAct_34 rfl ?_
      refine r_bipush cd_M_rodAct_35 ?_
      refine r_icmp_ne cd_M_rodAct_37 ⟨by omega, by omega⟩ ⟨by decide, by decide⟩ (fun c_37 => ?_) (fun c_37 => ?_)
      · skip
        refine r_aload_n cd_M_rodAct_48 rfl ?_
        refine r_iload_n cd_M_rodAct_49 rfl ?_
        refine r_vv1 cd_M_rodAct_50 rfl ck_M_rodAct_M_letGo (Nat.le_of_ble_eq_true rfl) (gs_eq hO) rfl hS ?_
        exact r_iret cd_M_rodAct_53 rt_M_rodAct (by rfl) (by rfl)
      · skip
        refine r_aload_n cd_M_rodAct_40 rfl ?_
        omega
theorem sp_M_rodAct_s {r b c k y : Int} (hO : h[40]? = some (mob mn mc sm om ga mr ma ax)) (hN : h[42]? = some (.inr (0, v))) (hD : h[44]? = some (.inr (0, dv))) (hw : WF v) (hl : ((dv.length : Nat) : Int) = 60) (x0 : 0 ≤ ax) (h0 : 0 ≤ r) (h1 : r < 8) (x1 : ax + 2 < 60) (hb : at_ dv (ax + 1) = b) (hc : at_ dv (ax + 2) = c) (c0 : 1 ≤ c - 48 ∧ c - 48 ≤ 9) (e : (b = 60 ∧ k = 2 ∧ y = -(c - 48)) ∨ (b = 62 ∧ k = 3 ∧ y = c - 48)) : NxR xs m_M_rodAct [vR 40, vI r] h v mn mc ga mr ma k r (c - 48) (ax + 3) := by
  refine ⟨sm, om, ?_⟩
  have hS := sp_M_slideBy (xs := xs) (n := c - 48) (b := y) (k := k) (gs_eq (c := mob mn mc sm om ga mr ma (ax + 2 + 1)) hO) (gs_ne (p := 40) (by omega) hN) hw h0 h1 (by omega) (by omega) (by omega)
  rw [hset, show ax + 2 + 1 = ax + 3 by omega] at hS
  have t : ∀ z, z = y → Rn xs m_M_rodAct 93 [vR 40, vI r, vI b, vI (c - 48)] [vI z, vI r, vR 40] (h.set 40 (mob mn mc sm om ga mr ma (ax + 3))) (some (vI (why v k r (c - 48)))) ((h.set 42 (.inr (0, act v k r (c - 48)))).set 40 (mob mn mc sm om ga mr ma (ax + 3))) := by
    intro z hz
    subst hz
    refine r_vv2 cd_M_rodAct_93 rfl ck_M_rodAct_M_slideBy (Nat.le_of_ble_eq_true rfl) (gs_eq hO) rfl hS ?_
    exact r_iret cd_M_rodAct_96 rt_M_rodAct (by rfl) (by rfl)
  have t65 : Rn xs m_M_rodAct 64 [vR 40, vI r, vI b, vU] [] (h.set 40 (mob mn mc sm om ga mr ma (ax + 3))) (some (vI (why v k r (c - 48)))) ((h.set 42 (.inr (0, act v k r (c - 48)))).set 40 (mob mn mc sm om ga mr ma (ax + 3))) := by
    have ec : at_ dv (ax + 3 - 1) = c := by rw [show ax + 3 - 1 = ax + 2 by omega]; exact hc
    refine r_aload_n cd_M_rodAct_64 rfl ?_
    refine r_getfield cd_M_rodAct_65 (gs_eq (c := mob mn mc sm om ga mr ma (ax + 3)) hO) rfl ?_
    refine r_aload_n cd_M_rodAct_68 rfl ?_
    refine r_getfield cd_M_rodAct_69 (gs_eq (c := mob mn mc sm om ga mr ma (ax + 3)) hO) rfl ?_
    refine r_iconst cd_M_rodAct_72 ?_
    refine r_isub cd_M_rodAct_73 ?_
    refine r_iaload (N := 60) cd_M_rodAct_74 (gs_ne (by omega) hD) hl (by omega) (by omega) (by omega) ?_
    refine r_bipush cd_M_rodAct_75 ?_
    refine r_isub cd_M_rodAct_77 ?_
    refine r_istoren4_3 cd_M_rodAct_78 rfl ?_
    refine r_aload_n cd_M_rodAct_79 rfl ?_
    refine r_iload_n cd_M_rodAct_80 rfl ?_
    refine r_iload_n cd_M_rodAct_81 rfl ?_
    refine r_bipush cd_M_rodAct_82 ?_
    refine r_icmp_ne cd_M_rodAct_84 ⟨by omega, by omega⟩ ⟨by decide, by decide⟩ (fun c_84 => ?_) (fun c_84 => ?_)
    · skip
      refine r_iload_n cd_M_rodAct_92 rfl ?_
      (rw [ec]; exact t _ (by omega))
    · skip
      refine r_iload_n cd_M_rodAct_87 rfl ?_
      refine r_ineg cd_M_rodAct_88 ?_
      refine r_goto cd_M_rodAct_89 ?_
      (rw [ec]; exact t _ (by omega))
  have e9 : (h.set 40 (mob mn mc sm om ga mr ma (ax + 2 + 1))) = (h.set 40 (mob mn mc sm om ga mr ma (ax + 3))) := by rw [show ax + 2 + 1 = ax + 3 by omega]
  refine en_M_rodAct ?_
  refine r_aload_n cd_M_rodAct_0 rfl ?_
  refine r_getfield cd_M_rodAct_1 hO rfl ?_
  refine r_aload_n cd_M_rodAct_4 rfl ?_
  refine r_getfield cd_M_rodAct_5 hO rfl ?_
  refine r_iconst cd_M_rodAct_8 ?_
  refine r_iadd cd_M_rodAct_9 ?_
  refine r_iaload (N := 60) cd_M_rodAct_10 hD hl (by omega) (by omega) (by omega) ?_
  refine r_istoren4_2 cd_M_rodAct_11 rfl ?_
  refine r_aload_n cd_M_rodAct_12 rfl ?_
  refine r_dup cd_M_rodAct_13 rfl ?_
  refine r_getfield cd_M_rodAct_14 hO rfl ?_
  refine r_iconst cd_M_rodAct_17 ?_
  refine r_iadd cd_M_rodAct_18 ?_
  refine r_putfield cd_M_rodAct_19 hO (Nat.le_of_ble_eq_true rfl) rfl ?_
  refine r_iload_n cd_M_rodAct_22 rfl ?_
  refine r_bipush cd_M_rodAct_23 ?_
  refine r_icmp_eq cd_M_rodAct_25 ⟨by omega, by omega⟩ ⟨by decide, by decide⟩ (fun c_25 => ?_) (fun c_25 => ?_)
  · skip
    omega
  · skip
    refine r_iload_n cd_M_rodAct_28 rfl ?_
    refine r_bipush cd_M_rodAct_29 ?_
    refine r_icmp_ne cd_M_rodAct_31 ⟨by omega, by omega⟩ ⟨by decide, by decide⟩ (fun c_31 => ?_) (fun c_31 => ?_)
    · skip
      refine r_aload_n cd_M_rodAct_54 rfl ?_
      refine r_dup cd_M_rodAct_55 rfl ?_
      refine r_getfield cd_M_rodAct_56 (gs_eq hO) rfl ?_
      refine r_iconst cd_M_rodAct_59 ?_
      refine r_iadd cd_M_rodAct_60 ?_
      refine r_putfield cd_M_rodAct_61 (gs_eq hO) (Nat.le_of_ble_eq_true rfl) rfl ?_
      (rw [hb, List.set_set]; show Rn xs m_M_rodAct 64 [vR 40, vI r, vI b, vU] [] (h.set 40 (mob mn mc sm om ga mr ma (ax + 2 + 1))) _ _; rw [e9]; exact t65)
    · skip
      omega

theorem sp_M_rodAct_any {r b c k n P : Int} (hO : h[40]? = some (mob mn mc sm om ga mr ma ax)) (hN : h[42]? = some (.inr (0, v))) (hD : h[44]? = some (.inr (0, dv))) (hw : WF v) (hl : ((dv.length : Nat) : Int) = 60) (x0 : 0 ≤ ax) (h0 : 0 ≤ r) (h1 : r < 8) (x1 : ax + 1 < 60) (hb : at_ dv (ax + 1) = b) (hc : at_ dv (ax + 2) = c) (e : (b = 40 ∧ k = 0 ∧ n = 0 ∧ P = ax + 2) ∨ (b = 41 ∧ k = 1 ∧ n = 0 ∧ P = ax + 2) ∨ (ax + 2 < 60 ∧ (1 ≤ c - 48 ∧ c - 48 ≤ 9) ∧ b = 60 ∧ k = 2 ∧ n = c - 48 ∧ P = ax + 3) ∨ (ax + 2 < 60 ∧ (1 ≤ c - 48 ∧ c - 48 ≤ 9) ∧ b = 62 ∧ k = 3 ∧ n = c - 48 ∧ P = ax + 3)) : NxR xs m_M_rodAct [vR 40, vI r] h v mn mc ga mr ma k r n P := by
  rcases e with ⟨e1, e2, e3, e4⟩ | ⟨e1, e2, e3, e4⟩ | ⟨x2, c0, e1, e2, e3, e4⟩ | ⟨x2, c0, e1, e2, e3, e4⟩
  · subst e2; subst e3; subst e4
    exact sp_M_rodAct_0 hO hN hD hw hl x0 h0 h1 x1 hb e1
  · subst e2; subst e3; subst e4
    exact sp_M_rodAct_1 hO hN hD hw hl x0 h0 h1 x1 hb e1
  · subst e2; subst e3; subst e4
    exact sp_M_rodAct_s hO hN hD hw hl x0 h0 h1 x2 hb hc c0 (Or.inl ⟨e1, rfl, rfl⟩)
  · subst e2; subst e3; subst e4
    exact sp_M_rodAct_s hO hN hD hw hl x0 h0 h1 x2 hb hc c0 (Or.inr ⟨e1, rfl, rfl⟩)
theorem sp_M_next_46 (hO : h[40]? = some (mob mn mc sm om ga mr ma ax)) (hN : h[42]? = some (.inr (0, v))) (hD : h[44]? = some (.inr (0, dv))) (hw : WF v) (hl : ((dv.length : Nat) : Int) = 60) (x0 : 0 ≤ ax) (x1 : ax < 60) (ha : at_ dv ax = 46) : NxR xs m_M_nextAct [vR 40] h v mn mc ga mr ma 8 (-6) 0 (ax + 1) := by
  refine ⟨sm, om, ?_⟩
  have hS := sp_M_endTenth (xs := xs) (r := -6) (n := 0) (gs_eq (c := mob mn mc sm om ga mr ma (ax + 1)) hO) (gs_ne (p := 40) (by omega) hN) hw
  rw [hset] at hS
  have t : Rn xs m_M_nextAct 10 [vR 40, vI 46] [] h (some (vI (why v 8 (-6) 0))) ((h.set 42 (.inr (0, act v 8 (-6) 0))).set 40 (mob mn mc sm om ga mr ma (ax + 1))) := by
    refine r_iload_n cd_M_nextAct_10 rfl ?_
    refine r_lookup (t := 60) cd_M_nextAct_11 ⟨by decide, by decide⟩ (by decide) (by decide) ?_
    refine r_aload_n cd_M_nextAct_60 rfl ?_
    refine r_dup cd_M_nextAct_61 rfl ?_
    refine r_getfield cd_M_nextAct_62 hO rfl ?_
    refine r_iconst cd_M_nextAct_65 ?_
    refine r_iadd cd_M_nextAct_66 ?_
    refine r_putfield cd_M_nextAct_67 hO (Nat.le_of_ble_eq_true rfl) rfl ?_
    refine r_aload_n cd_M_nextAct_70 rfl ?_
    refine r_vv0 cd_M_nextAct_71 rfl ck_M_nextAct_M_endTenth (Nat.le_of_ble_eq_true rfl) (gs_eq hO) rfl hS ?_
    exact r_iret cd_M_nextAct_74 rt_M_nextAct (by rfl) (by rfl)
  refine en_M_nextAct ?_
  refine r_aload_n cd_M_nextAct_0 rfl ?_
  refine r_getfield cd_M_nextAct_1 hO rfl ?_
  refine r_aload_n cd_M_nextAct_4 rfl ?_
  refine r_getfield cd_M_nextAct_5 hO rfl ?_
  refine r_iaload (N := 60) cd_M_nextAct_8 hD hl (by omega) (by omega) (by omega) ?_
  refine r_istoren2_1 cd_M_nextAct_9 rfl ?_
  (rw [ha]; exact t)
theorem sp_M_next_112 {b : Int} (hO : h[40]? = some (mob mn mc sm om ga mr ma ax)) (hN : h[42]? = some (.inr (0, v))) (hD : h[44]? = some (.inr (0, dv))) (hw : WF v) (hl : ((dv.length : Nat) : Int) = 60) (x0 : 0 ≤ ax) (x1 : ax + 1 < 60) (ha : at_ dv ax = 112) (hb : at_ dv (ax + 1) = b) (b0 : 0 ≤ b - 48 ∧ b - 48 ≤ 4) : NxR xs m_M_nextAct [vR 40] h v mn mc ga mr ma 4 (-6) (b - 48) (ax + 2) := by
  refine ⟨sm, om, ?_⟩
  have hS := sp_M_passTo (xs := xs) (r := -6) (n := b - 48) (gs_eq (c := mob mn mc sm om ga mr ma (ax + 2)) hO) (gs_ne (p := 40) (by omega) hN) hw (by omega) (by omega)
  rw [hset] at hS
  have eb : at_ dv (ax + 2 - 1) = b := by rw [show ax + 2 - 1 = ax + 1 by omega]; exact hb
  have t : Rn xs m_M_nextAct 10 [vR 40, vI 112] [] h (some (vI (why v 4 (-6) (b - 48)))) ((h.set 42 (.inr (0, act v 4 (-6) (b - 48)))).set 40 (mob mn mc sm om ga mr ma (ax + 2))) := by
    refine r_iload_n cd_M_nextAct_10 rfl ?_
    refine r_lookup (t := 75) cd_M_nextAct_11 ⟨by decide, by decide⟩ (by decide) (by decide) ?_
    refine r_aload_n cd_M_nextAct_75 rfl ?_
    refine r_dup cd_M_nextAct_76 rfl ?_
    refine r_getfield cd_M_nextAct_77 hO rfl ?_
    refine r_iconst cd_M_nextAct_80 ?_
    refine r_iadd cd_M_nextAct_81 ?_
    refine r_putfield cd_M_nextAct_82 hO (Nat.le_of_ble_eq_true rfl) rfl ?_
    refine r_aload_n cd_M_nextAct_85 rfl ?_
    refine r_aload_n cd_M_nextAct_86 rfl ?_
    refine r_getfield cd_M_nextAct_87 (gs_eq hO) rfl ?_
    refine r_aload_n cd_M_nextAct_90 rfl ?_
    refine r_getfield cd_M_nextAct_91 (gs_eq hO) rfl ?_
    refine r_iconst cd_M_nextAct_94 ?_
    refine r_isub cd_M_nextAct_95 ?_
    refine r_iaload (N := 60) cd_M_nextAct_96 (gs_ne (by omega) hD) hl (by omega) (by omega) (by omega) ?_
    refine r_bipush cd_M_nextAct_97 ?_
    refine r_isub cd_M_nextAct_99 ?_
    refine r_vv1 cd_M_nextAct_100 rfl ck_M_nextAct_M_passTo (Nat.le_of_ble_eq_true rfl) (gs_eq hO) rfl (by rw [eb]; exact hS) ?_
    exact r_iret cd_M_nextAct_103 rt_M_nextAct (by rfl) (by rfl)
  refine en_M_nextAct ?_
  refine r_aload_n cd_M_nextAct_0 rfl ?_
  refine r_getfield cd_M_nextAct_1 hO rfl ?_
  refine r_aload_n cd_M_nextAct_4 rfl ?_
  refine r_getfield cd_M_nextAct_5 hO rfl ?_
  refine r_iaload (N := 60) cd_M_nextAct_8 hD hl (by omega) (by omega) (by omega) ?_
  refine r_istoren2_1 cd_M_nextAct_9 rfl ?_
  (rw [ha]; exact t)
theorem sp_M_next_80 {b : Int} (hO : h[40]? = some (mob mn mc sm om ga mr ma ax)) (hN : h[42]? = some (.inr (0, v))) (hD : h[44]? = some (.inr (0, dv))) (hw : WF v) (hl : ((dv.length : Nat) : Int) = 60) (x0 : 0 ≤ ax) (x1 : ax + 1 < 60) (ha : at_ dv ax = 80) (hb : at_ dv (ax + 1) = b) (b0 : 0 ≤ b - 97 ∧ b - 97 < 8) : NxR xs m_M_nextAct [vR 40] h v mn mc ga mr ma 5 (b - 97) 0 (ax + 2) := by
  obtain ⟨om', hS⟩ := sp_M_passOver (xs := xs) (r := b - 97) (n := 0) (gs_eq (c := mob mn mc sm om ga mr ma (ax + 2)) hO) (gs_ne (p := 40) (by omega) hN) hw b0.1 b0.2
  refine ⟨sm, om', ?_⟩
  rw [hset, List.set_set] at hS
  have eb : at_ dv (ax + 2 - 1) = b := by rw [show ax + 2 - 1 = ax + 1 by omega]; exact hb
  have t : Rn xs m_M_nextAct 10 [vR 40, vI 80] [] h (some (vI (why v 5 (b - 97) 0))) ((h.set 42 (.inr (0, act v 5 (b - 97) 0))).set 40 (mob mn mc sm om' ga mr ma (ax + 2))) := by
    refine r_iload_n cd_M_nextAct_10 rfl ?_
    refine r_lookup (t := 104) cd_M_nextAct_11 ⟨by decide, by decide⟩ (by decide) (by decide) ?_
    refine r_aload_n cd_M_nextAct_104 rfl ?_
    refine r_dup cd_M_nextAct_105 rfl ?_
    refine r_getfield cd_M_nextAct_106 hO rfl ?_
    refine r_iconst cd_M_nextAct_109 ?_
    refine r_iadd cd_M_nextAct_110 ?_
    refine r_putfield cd_M_nextAct_111 hO (Nat.le_of_ble_eq_true rfl) rfl ?_
    refine r_aload_n cd_M_nextAct_114 rfl ?_
    refine r_aload_n cd_M_nextAct_115 rfl ?_
    refine r_getfield cd_M_nextAct_116 (gs_eq hO) rfl ?_
    refine r_aload_n cd_M_nextAct_119 rfl ?_
    refine r_getfield cd_M_nextAct_120 (gs_eq hO) rfl ?_
    refine r_iconst cd_M_nextAct_123 ?_
    refine r_isub cd_M_nextAct_124 ?_
    refine r_iaload (N := 60) cd_M_nextAct_125 (gs_ne (by omega) hD) hl (by omega) (by omega) (by omega) ?_
    refine r_bipush cd_M_nextAct_126 ?_
    refine r_isub cd_M_nextAct_128 ?_
    refine r_vv1 cd_M_nextAct_129 rfl ck_M_nextAct_M_passOver (Nat.le_of_ble_eq_true rfl) (gs_eq hO) rfl (by rw [eb]; exact hS) ?_
    exact r_iret cd_M_nextAct_132 rt_M_nextAct (by rfl) (by rfl)
  refine en_M_nextAct ?_
  refine r_aload_n cd_M_nextAct_0 rfl ?_
  refine r_getfield cd_M_nextAct_1 hO rfl ?_
  refine r_aload_n cd_M_nextAct_4 rfl ?_
  refine r_getfield cd_M_nextAct_5 hO rfl ?_
  refine r_iaload (N := 60) cd_M_nextAct_8 hD hl (by omega) (by omega) (by omega) ?_
  refine r_istoren2_1 cd_M_nextAct_9 rfl ?_
  (rw [ha]; exact t)
theorem sp_M_next_115 {b c d : Int} (hO : h[40]? = some (mob mn mc sm om ga mr ma ax)) (hN : h[42]? = some (.inr (0, v))) (hD : h[44]? = some (.inr (0, dv))) (hw : WF v) (hl : ((dv.length : Nat) : Int) = 60) (x0 : 0 ≤ ax) (x1 : ax + 2 < 60) (ha : at_ dv ax = 115) (hb : at_ dv (ax + 1) = b) (hc : at_ dv (ax + 2) = c) (c0 : 0 ≤ c - 48 ∧ c - 48 ≤ 9) (e : (b = 62 ∧ d = c - 48) ∨ (b = 60 ∧ d = -(c - 48))) : NxR xs m_M_nextAct [vR 40] h v mn mc ga mr ma 6 (-6) d (ax + 3) := by
  obtain ⟨sm', hS⟩ := sp_M_shoot (xs := xs) (r := -6) (d := d) (gs_eq (c := mob mn mc sm om ga mr ma (ax + 3)) hO) (gs_ne (p := 40) (by omega) hN) hw (by omega) (by omega)
  refine ⟨sm', om, ?_⟩
  rw [hset, List.set_set] at hS
  have eb : at_ dv (ax + 3 - 2) = b := by rw [show ax + 3 - 2 = ax + 1 by omega]; exact hb
  have ec : at_ dv (ax + 3 - 1) = c := by rw [show ax + 3 - 1 = ax + 2 by omega]; exact hc
  have t191 : ∀ z, z = d → Rn xs m_M_nextAct 191 [vR 40, vI 115] [vI z, vR 40] (h.set 40 (mob mn mc sm om ga mr ma (ax + 3))) (some (vI (why v 6 (-6) d))) ((h.set 42 (.inr (0, act v 6 (-6) d))).set 40 (mob mn mc sm' om ga mr ma (ax + 3))) := by
    intro z hz
    subst hz
    refine r_vv1 cd_M_nextAct_191 rfl ck_M_nextAct_M_shoot (Nat.le_of_ble_eq_true rfl) (gs_eq hO) rfl hS ?_
    exact r_iret cd_M_nextAct_194 rt_M_nextAct (by rfl) (by rfl)
  have t : Rn xs m_M_nextAct 10 [vR 40, vI 115] [] h (some (vI (why v 6 (-6) d))) ((h.set 42 (.inr (0, act v 6 (-6) d))).set 40 (mob mn mc sm' om ga mr ma (ax + 3))) := by
    refine r_iload_n cd_M_nextAct_10 rfl ?_
    refine r_lookup (t := 133) cd_M_nextAct_11 ⟨by decide, by decide⟩ (by decide) (by decide) ?_
    refine r_aload_n cd_M_nextAct_133 rfl ?_
    refine r_dup cd_M_nextAct_134 rfl ?_
    refine r_getfield cd_M_nextAct_135 hO rfl ?_
    refine r_iconst cd_M_nextAct_138 ?_
    refine r_iadd cd_M_nextAct_139 ?_
    refine r_putfield cd_M_nextAct_140 hO (Nat.le_of_ble_eq_true rfl) rfl ?_
    refine r_aload_n cd_M_nextAct_143 rfl ?_
    refine r_aload_n cd_M_nextAct_144 rfl ?_
    refine r_getfield cd_M_nextAct_145 (gs_eq hO) rfl ?_
    refine r_aload_n cd_M_nextAct_148 rfl ?_
    refine r_getfield cd_M_nextAct_149 (gs_eq hO) rfl ?_
    refine r_iconst cd_M_nextAct_152 ?_
    refine r_isub cd_M_nextAct_153 ?_
    refine r_iaload (N := 60) cd_M_nextAct_154 (gs_ne (by omega) hD) hl (by omega) (by omega) (by omega) ?_
    refine r_bipush cd_M_nextAct_155 ?_
    refine r_icmp_ne cd_M_nextAct_157 ⟨by omega, by omega⟩ ⟨by decide, by decide⟩ (fun c_157 => ?_) (fun c_157 => ?_)
    · skip
      refine r_aload_n cd_M_nextAct_177 rfl ?_
      refine r_getfield cd_M_nextAct_178 (gs_eq hO) rfl ?_
      refine r_aload_n cd_M_nextAct_181 rfl ?_
      refine r_getfield cd_M_nextAct_182 (gs_eq hO) rfl ?_
      refine r_iconst cd_M_nextAct_185 ?_
      refine r_isub cd_M_nextAct_186 ?_
      refine r_iaload (N := 60) cd_M_nextAct_187 (gs_ne (by omega) hD) hl (by omega) (by omega) (by omega) ?_
      refine r_bipush cd_M_nextAct_188 ?_
      refine r_isub cd_M_nextAct_190 ?_
      exact t191 _ (by omega)
    · skip
      refine r_bipush cd_M_nextAct_160 ?_
      refine r_aload_n cd_M_nextAct_162 rfl ?_
      refine r_getfield cd_M_nextAct_163 (gs_eq hO) rfl ?_
      refine r_aload_n cd_M_nextAct_166 rfl ?_
      refine r_getfield cd_M_nextAct_167 (gs_eq hO) rfl ?_
      refine r_iconst cd_M_nextAct_170 ?_
      refine r_isub cd_M_nextAct_171 ?_
      refine r_iaload (N := 60) cd_M_nextAct_172 (gs_ne (by omega) hD) hl (by omega) (by omega) (by omega) ?_
      refine r_isub cd_M_nextAct_173 ?_
      refine r_goto cd_M_nextAct_174 ?_
      exact t191 _ (by omega)
  refine en_M_nextAct ?_
  refine r_aload_n cd_M_nextAct_0 rfl ?_
  refine r_getfield cd_M_nextAct_1 hO rfl ?_
  refine r_aload_n cd_M_nextAct_4 rfl ?_
  refine r_getfield cd_M_nextAct_5 hO rfl ?_
  refine r_iaload (N := 60) cd_M_nextAct_8 hD hl (by omega) (by omega) (by omega) ?_
  refine r_istoren2_1 cd_M_nextAct_9 rfl ?_
  (rw [ha]; exact t)
theorem sp_M_next_33 {b c : Int} (hO : h[40]? = some (mob mn mc sm om ga mr ma ax)) (hN : h[42]? = some (.inr (0, v))) (hD : h[44]? = some (.inr (0, dv))) (hw : WF v) (hl : ((dv.length : Nat) : Int) = 60) (x0 : 0 ≤ ax) (x1 : ax + 2 < 60) (ha : at_ dv ax = 33) (hb : at_ dv (ax + 1) = b) (hc : at_ dv (ax + 2) = c) (b0 : 0 ≤ b - 97 ∧ b - 97 < 8) (c0 : 0 ≤ c - 48 ∧ c - 48 ≤ 4) : NxR xs m_M_nextAct [vR 40] h v mn mc ga mr ma 7 (b - 97) (c - 48) (ax + 3) := by
  have hS := sp_M_throwIn (xs := xs) (r := b - 97) (n := c - 48) (gs_eq (c := mob mn mc sm om ga mr ma (ax + 3)) hO) (gs_ne (p := 40) (by omega) hN) hw b0.1 b0.2 (by omega) (by omega)
  refine ⟨sm, om, ?_⟩
  rw [hset] at hS
  have eb : at_ dv (ax + 3 - 2) = b := by rw [show ax + 3 - 2 = ax + 1 by omega]; exact hb
  have ec : at_ dv (ax + 3 - 1) = c := by rw [show ax + 3 - 1 = ax + 2 by omega]; exact hc
  have t : Rn xs m_M_nextAct 10 [vR 40, vI 33] [] h (some (vI (why v 7 (b - 97) (c - 48)))) ((h.set 42 (.inr (0, act v 7 (b - 97) (c - 48)))).set 40 (mob mn mc sm om ga mr ma (ax + 3))) := by
    refine r_iload_n cd_M_nextAct_10 rfl ?_
    refine r_lookup (t := 195) cd_M_nextAct_11 ⟨by decide, by decide⟩ (by decide) (by decide) ?_
    refine r_aload_n cd_M_nextAct_195 rfl ?_
    refine r_dup cd_M_nextAct_196 rfl ?_
    refine r_getfield cd_M_nextAct_197 hO rfl ?_
    refine r_iconst cd_M_nextAct_200 ?_
    refine r_iadd cd_M_nextAct_201 ?_
    refine r_putfield cd_M_nextAct_202 hO (Nat.le_of_ble_eq_true rfl) rfl ?_
    refine r_aload_n cd_M_nextAct_205 rfl ?_
    refine r_aload_n cd_M_nextAct_206 rfl ?_
    refine r_getfield cd_M_nextAct_207 (gs_eq hO) rfl ?_
    refine r_aload_n cd_M_nextAct_210 rfl ?_
    refine r_getfield cd_M_nextAct_211 (gs_eq hO) rfl ?_
    refine r_iconst cd_M_nextAct_214 ?_
    refine r_isub cd_M_nextAct_215 ?_
    refine r_iaload (N := 60) cd_M_nextAct_216 (gs_ne (by omega) hD) hl (by omega) (by omega) (by omega) ?_
    refine r_bipush cd_M_nextAct_217 ?_
    refine r_isub cd_M_nextAct_219 ?_
    refine r_aload_n cd_M_nextAct_220 rfl ?_
    refine r_getfield cd_M_nextAct_221 (gs_eq hO) rfl ?_
    refine r_aload_n cd_M_nextAct_224 rfl ?_
    refine r_getfield cd_M_nextAct_225 (gs_eq hO) rfl ?_
    refine r_iconst cd_M_nextAct_228 ?_
    refine r_isub cd_M_nextAct_229 ?_
    refine r_iaload (N := 60) cd_M_nextAct_230 (gs_ne (by omega) hD) hl (by omega) (by omega) (by omega) ?_
    refine r_bipush cd_M_nextAct_231 ?_
    refine r_isub cd_M_nextAct_233 ?_
    refine r_vv2 cd_M_nextAct_234 rfl ck_M_nextAct_M_throwIn (Nat.le_of_ble_eq_true rfl) (gs_eq hO) rfl (by rw [eb, ec]; exact hS) ?_
    exact r_iret cd_M_nextAct_237 rt_M_nextAct (by rfl) (by rfl)
  refine en_M_nextAct ?_
  refine r_aload_n cd_M_nextAct_0 rfl ?_
  refine r_getfield cd_M_nextAct_1 hO rfl ?_
  refine r_aload_n cd_M_nextAct_4 rfl ?_
  refine r_getfield cd_M_nextAct_5 hO rfl ?_
  refine r_iaload (N := 60) cd_M_nextAct_8 hD hl (by omega) (by omega) (by omega) ?_
  refine r_istoren2_1 cd_M_nextAct_9 rfl ?_
  (rw [ha]; exact t)
theorem sp_M_next_l {a k n P : Int} (hO : h[40]? = some (mob mn mc sm om ga mr ma ax)) (hN : h[42]? = some (.inr (0, v))) (hD : h[44]? = some (.inr (0, dv))) (hw : WF v) (hl : ((dv.length : Nat) : Int) = 60) (x0 : 0 ≤ ax) (x1 : ax < 60) (ha : at_ dv ax = a) (a0 : 0 ≤ a - 97 ∧ a - 97 < 8) (a1 : a ≠ 112 ∧ a ≠ 115) (hR : NxR xs m_M_rodAct [vR 40, vI (a - 97)] h v mn mc ga mr ma k (a - 97) n P) : NxR xs m_M_nextAct [vR 40] h v mn mc ga mr ma k (a - 97) n P := by
  obtain ⟨sm', om', hS⟩ := hR
  refine ⟨sm', om', ?_⟩
  have t : Rn xs m_M_nextAct 10 [vR 40, vI a] [] h (some (vI (why v k (a - 97) n))) ((h.set 42 (.inr (0, act v k (a - 97) n))).set 40 (mob mn mc sm' om' ga mr ma P)) := by
    refine r_iload_n cd_M_nextAct_10 rfl ?_
    by_cases s_11_33 : a = 33
    · skip
      rw [s_11_33]
      refine r_lookup (t := 195) cd_M_nextAct_11 ⟨by decide, by decide⟩ (by decide) (by decide) ?_
      omega
    by_cases s_11_46 : a = 46
    · skip
      rw [s_11_46]
      refine r_lookup (t := 60) cd_M_nextAct_11 ⟨by decide, by decide⟩ (by decide) (by decide) ?_
      omega
    by_cases s_11_80 : a = 80
    · skip
      rw [s_11_80]
      refine r_lookup (t := 104) cd_M_nextAct_11 ⟨by decide, by decide⟩ (by decide) (by decide) ?_
      omega
    by_cases s_11_112 : a = 112
    · skip
      rw [s_11_112]
      refine r_lookup (t := 75) cd_M_nextAct_11 ⟨by decide, by decide⟩ (by decide) (by decide) ?_
      omega
    by_cases s_11_115 : a = 115
    · skip
      rw [s_11_115]
      refine r_lookup (t := 133) cd_M_nextAct_11 ⟨by decide, by decide⟩ (by decide) (by decide) ?_
      omega
    refine r_lookup (t := 238) cd_M_nextAct_11 ⟨by omega, by omega⟩ (by decide) (by simp only [Op.lookupswitch.offset]; split <;> first | omega | rfl) ?_
    refine r_aload_n cd_M_nextAct_238 rfl ?_
    refine r_iload_n cd_M_nextAct_239 rfl ?_
    refine r_bipush cd_M_nextAct_240 ?_
    refine r_isub cd_M_nextAct_242 ?_
    refine r_vv1 cd_M_nextAct_243 rfl ck_M_nextAct_M_rodAct (Nat.le_of_ble_eq_true rfl) hO rfl hS ?_
    exact r_iret cd_M_nextAct_246 rt_M_nextAct (by rfl) (by rfl)
  refine en_M_nextAct ?_
  refine r_aload_n cd_M_nextAct_0 rfl ?_
  refine r_getfield cd_M_nextAct_1 hO rfl ?_
  refine r_aload_n cd_M_nextAct_4 rfl ?_
  refine r_getfield cd_M_nextAct_5 hO rfl ?_
  refine r_iaload (N := 60) cd_M_nextAct_8 hD hl (by omega) (by omega) (by omega) ?_
  refine r_istoren2_1 cd_M_nextAct_9 rfl ?_
  (rw [ha]; exact t)
theorem sp_M_nextAct {k0 : Int} (hO : h[40]? = some (mob mn mc sm om ga mr ma ax)) (hN : h[42]? = some (.inr (0, v))) (hD : h[44]? = some (.inr (0, dv))) (hw : WF v) (hl : ((dv.length : Nat) : Int) = 60) (x0 : 0 ≤ ax) (hp0 : PdOK dv mc ax) (x1 : ax < mc) (hok : at_ (rdq dv mc ax k0) 0 ≠ 0) : NxR xs m_M_nextAct [vR 40] h v mn mc ga mr ma (at_ (rdq dv mc ax k0) 2) (at_ (rdq dv mc ax k0) 3) (at_ (rdq dv mc ax k0) 4) (at_ (rdq dv mc ax k0) 1) := by
  obtain ⟨p1, p2, p3, p4, p5⟩ := id hp0
  have f2 : 0 < sg dv mc (ax + 1) → ax + 1 < mc ∧ at_ dv (ax + 1) = sg dv mc (ax + 1) := by
    intro z
    unfold sg at z ⊢
    by_cases y : ax + 1 < mc
    · rw [if_pos y]; exact ⟨y, rfl⟩
    · rw [if_neg y] at z; omega
  have f3 : 0 < sg dv mc (ax + 1 + 1) → ax + 2 < mc ∧ at_ dv (ax + 2) = sg dv mc (ax + 1 + 1) := by
    intro z
    unfold sg at z ⊢
    by_cases y : ax + 1 + 1 < mc
    · rw [if_pos y, show ax + 1 + 1 = ax + 2 by omega]; exact ⟨by omega, rfl⟩
    · rw [if_neg y] at z; omega
  have ha : at_ dv ax = sg dv mc ax := by unfold sg; rw [if_pos x1]
  unfold rdq at hok ⊢
  generalize sg dv mc ax = a at *
  generalize sg dv mc (ax + 1) = b at *
  generalize sg dv mc (ax + 1 + 1) = c at *
  unfold rdA at hok ⊢
  by_cases z1 : a = 46
  · rw [if_pos z1]
    exact sp_M_next_46 hO hN hD hw hl x0 (by omega) (by omega)
  rw [if_neg z1] at hok ⊢
  by_cases z2 : a = 112
  · rw [if_pos z2] at hok ⊢
    by_cases y : 0 ≤ b - 48 ∧ b - 48 ≤ 4
    · rw [if_pos y, show ax + 1 + 1 = ax + 2 by omega]
      have q := f2 (by omega)
      exact sp_M_next_112 hO hN hD hw hl x0 (by omega) (by omega) q.2 y
    · rw [if_neg y] at hok
      exact absurd rfl hok
  rw [if_neg z2] at hok ⊢
  by_cases z3 : a = 80
  · rw [if_pos z3] at hok ⊢
    by_cases y : 0 ≤ b - 97 ∧ b - 97 < 8
    · rw [if_pos y, show ax + 1 + 1 = ax + 2 by omega]
      have q := f2 (by omega)
      exact sp_M_next_80 hO hN hD hw hl x0 (by omega) (by omega) q.2 y
    · rw [if_neg y] at hok
      exact absurd rfl hok
  rw [if_neg z3] at hok ⊢
  by_cases z4 : a = 115
  · rw [if_pos z4] at hok ⊢
    unfold wyA at hok ⊢
    by_cases y1 : b = 62
    · rw [if_pos y1] at hok ⊢
      by_cases y : 0 ≤ c - 48 ∧ c - 48 ≤ 9
      · rw [if_pos y, show ax + 1 + 1 + 1 = ax + 3 by omega]
        have q := f2 (by omega)
        have q3 := f3 (by omega)
        exact sp_M_next_115 hO hN hD hw hl x0 (by omega) (by omega) q.2 q3.2 y (Or.inl ⟨y1, rfl⟩)
      · rw [if_neg y] at hok
        exact absurd rfl hok
    rw [if_neg y1] at hok ⊢
    by_cases y2 : b = 60
    · rw [if_pos y2] at hok ⊢
      by_cases y : 0 ≤ c - 48 ∧ c - 48 ≤ 9
      · rw [if_pos y, show ax + 1 + 1 + 1 = ax + 3 by omega]
        have q := f2 (by omega)
        have q3 := f3 (by omega)
        exact sp_M_next_115 hO hN hD hw hl x0 (by omega) (by omega) q.2 q3.2 y (Or.inr ⟨y2, rfl⟩)
      · rw [if_neg y] at hok
        exact absurd rfl hok
    · rw [if_neg y2] at hok
      exact absurd rfl hok
  rw [if_neg z4] at hok ⊢
  by_cases z5 : a = 33
  · rw [if_pos z5] at hok ⊢
    by_cases y1 : 0 ≤ b - 97 ∧ b - 97 < 8
    · rw [if_pos y1] at hok ⊢
      by_cases y : 0 ≤ c - 48 ∧ c - 48 ≤ 4
      · rw [if_pos y, show ax + 1 + 1 + 1 = ax + 3 by omega]
        have q := f2 (by omega)
        have q3 := f3 (by omega)
        exact sp_M_next_33 hO hN hD hw hl x0 (by omega) (by omega) q.2 q3.2 y1 y
      · rw [if_neg y] at hok
        exact absurd rfl hok
    · rw [if_neg y1] at hok
      exact absurd rfl hok
  rw [if_neg z5] at hok ⊢
  by_cases z6 : 0 ≤ a - 97 ∧ a - 97 < 8
  · rw [if_pos z6] at hok ⊢
    unfold hdA at hok ⊢
    have go := fun (k n P : Int) (hR) => sp_M_next_l (xs := xs) (k := k) (n := n) (P := P) hO hN hD hw hl x0 (by omega) ha z6 ⟨z2, z4⟩ hR
    have gr := fun (k n P : Int) (x1 : ax + 1 < 60) (hb : at_ dv (ax + 1) = b) (e) => go k n P (sp_M_rodAct_any hO hN hD hw hl x0 z6.1 z6.2 x1 hb rfl e)
    by_cases y1 : b = 40
    · rw [if_pos y1, show ax + 1 + 1 = ax + 2 by omega]
      have q := f2 (by omega)
      exact gr 0 0 (ax + 2) (by omega) q.2 (Or.inl ⟨y1, rfl, rfl, rfl⟩)
    rw [if_neg y1] at hok ⊢
    by_cases y2 : b = 41
    · rw [if_pos y2, show ax + 1 + 1 = ax + 2 by omega]
      have q := f2 (by omega)
      exact gr 1 0 (ax + 2) (by omega) q.2 (Or.inr (Or.inl ⟨y2, rfl, rfl, rfl⟩))
    rw [if_neg y2] at hok ⊢
    by_cases y3 : b = 60
    · rw [if_pos y3] at hok ⊢
      by_cases y : 1 ≤ c - 48 ∧ c - 48 ≤ 9
      · rw [if_pos y, show ax + 1 + 1 + 1 = ax + 3 by omega]
        have q := f2 (by omega)
        have q3 := f3 (by omega)
        exact gr 2 (c - 48) (ax + 3) (by omega) q.2 (Or.inr (Or.inr (Or.inl ⟨by omega, by omega, y3, rfl, by omega, rfl⟩)))
      · rw [if_neg y] at hok
        exact absurd rfl hok
    rw [if_neg y3] at hok ⊢
    by_cases y4 : b = 62
    · rw [if_pos y4] at hok ⊢
      by_cases y : 1 ≤ c - 48 ∧ c - 48 ≤ 9
      · rw [if_pos y, show ax + 1 + 1 + 1 = ax + 3 by omega]
        have q := f2 (by omega)
        have q3 := f3 (by omega)
        exact gr 3 (c - 48) (ax + 3) (by omega) q.2 (Or.inr (Or.inr (Or.inr ⟨by omega, by omega, y4, rfl, by omega, rfl⟩)))
      · rw [if_neg y] at hok
        exact absurd rfl hok
    · rw [if_neg y4] at hok
      exact absurd rfl hok
  · rw [if_neg z6] at hok
    exact absurd rfl hok
end C68
