-- the fault of a pad, an evening played
section C39
variable {xs : List Int} {h : MH} {t : Nat} {w ss : List Int} {cn pl k r n : Int}
def rdq (ss : List Int) (cn pl k : Int) : List Int := rdA pl (sg ss cn pl) (sg ss cn (pl + 1)) (sg ss cn (pl + 1 + 1)) k
theorem rd_ok (pl a b c k : Int) : at_ (rdA pl a b c k) 0 = 0 ∨ at_ (rdA pl a b c k) 0 = 1 := by
  unfold rdA
  (repeat' split) <;> first | exact Or.inl rfl | exact Or.inr rfl | exact wy_ok _ _ _ _ _ _ | exact hd_ok _ _ _ _ _ _
theorem at0 {x0 x1 x2 x3 x4 : Int} : at_ [x0, x1, x2, x3, x4] 0 = x0 := rfl
theorem at1 {x0 x1 x2 x3 x4 : Int} : at_ [x0, x1, x2, x3, x4] 1 = x1 := rfl
theorem at2 {x0 x1 x2 x3 x4 : Int} : at_ [x0, x1, x2, x3, x4] 2 = x2 := rfl
theorem at3 {x0 x1 x2 x3 x4 : Int} : at_ [x0, x1, x2, x3, x4] 3 = x3 := rfl
theorem at4 {x0 x1 x2 x3 x4 : Int} : at_ [x0, x1, x2, x3, x4] 4 = x4 := rfl
def rdG (pl : Int) (R : List Int) : Prop := (pl ≤ at_ R 1 ∧ at_ R 1 ≤ pl + 3 ∧ (at_ R 0 ≠ 0 → pl + 1 ≤ at_ R 1)) ∧ (at_ R 0 ≠ 0 → actOK (at_ R 2) (at_ R 3) (at_ R 4))
theorem rdG_mk {pl x0 x1 x2 x3 x4 : Int} (h1 : pl ≤ x1 ∧ x1 ≤ pl + 3 ∧ (x0 ≠ 0 → pl + 1 ≤ x1)) (h2 : x0 ≠ 0 → 0 ≤ x2 ∧ x2 ≤ 8 ∧ ((x2 ≤ 3 ∨ x2 = 5 ∨ x2 = 7) → 0 ≤ x3 ∧ x3 < 8) ∧ -9 ≤ x4 ∧ x4 ≤ 9 ∧ (x2 = 2 ∨ x2 = 3 → 0 ≤ x4)) : rdG pl [x0, x1, x2, x3, x4] := ⟨h1, h2⟩
theorem wy_G (pl b c : Int) : rdG pl (wyA (pl + 1) b c 6 (-6) 0) := by
  unfold wyA
  (repeat' split) <;> exact rdG_mk (by omega) (by omega)
theorem hd_G {pl b c k r : Int} (h0 : 0 ≤ r ∧ r < 8) : rdG pl (hdA (pl + 1) b c k r 0) := by
  unfold hdA
  (repeat' split) <;> exact rdG_mk (by omega) (by omega)
theorem rd_G (pl a b c k : Int) : rdG pl (rdA pl a b c k) := by
  unfold rdA
  by_cases z1 : a = 46
  · rw [if_pos z1]; exact rdG_mk (by omega) (by omega)
  rw [if_neg z1]
  by_cases z2 : a = 112
  · rw [if_pos z2]; split <;> exact rdG_mk (by omega) (by omega)
  rw [if_neg z2]
  by_cases z3 : a = 80
  · rw [if_pos z3]; split <;> exact rdG_mk (by omega) (by omega)
  rw [if_neg z3]
  by_cases z4 : a = 115
  · rw [if_pos z4]; exact wy_G _ _ _
  rw [if_neg z4]
  by_cases z5 : a = 33
  · rw [if_pos z5]; (repeat' split) <;> exact rdG_mk (by omega) (by omega)
  rw [if_neg z5]
  by_cases z6 : 0 ≤ a - 97 ∧ a - 97 < 8
  · rw [if_pos z6]; exact hd_G z6
  · rw [if_neg z6]; exact rdG_mk (by omega) (by omega)
theorem rdq_ok (ss : List Int) (cn pl k : Int) : at_ (rdq ss cn pl k) 0 = 0 ∨ at_ (rdq ss cn pl k) 0 = 1 := rd_ok _ _ _ _ _
theorem rdq_pl (ss : List Int) (cn pl k : Int) : pl ≤ at_ (rdq ss cn pl k) 1 ∧ at_ (rdq ss cn pl k) 1 ≤ pl + 3 ∧ (at_ (rdq ss cn pl k) 0 ≠ 0 → pl + 1 ≤ at_ (rdq ss cn pl k) 1) := (rd_G _ _ _ _ _).1
theorem rdq_act {ss : List Int} {cn pl k : Int} (h : at_ (rdq ss cn pl k) 0 ≠ 0) : actOK (at_ (rdq ss cn pl k) 2) (at_ (rdq ss cn pl k) 3) (at_ (rdq ss cn pl k) 4) := (rd_G _ _ _ _ _).2 h
theorem sp_readQ (hP : PadAt h t ss cn pl k r n) (hl : pl ≤ 800) : Sp xs m_Pad_readAct [vR t] h (some (vI (at_ (rdq ss cn pl k) 0))) (h.set t (pobj t cn (at_ (rdq ss cn pl k) 1) (at_ (rdq ss cn pl k) 2) (at_ (rdq ss cn pl k) 3) (at_ (rdq ss cn pl k) 4))) := sp_readAct hP hl
def faA (ss : List Int) (cn : Int) : Nat → Int → Int → Int → Int → List Int
  | 0, pl, k, r, n => [-6, pl, k, r, n]
  | f + 1, pl, k, r, n =>
    if cn ≤ pl then [-6, pl, k, r, n]
    else if at_ (rdq ss cn pl k) 0 = 0 then [at_ (rdq ss cn pl k) 1, at_ (rdq ss cn pl k) 1, at_ (rdq ss cn pl k) 2, at_ (rdq ss cn pl k) 3, at_ (rdq ss cn pl k) 4]
    else faA ss cn f (at_ (rdq ss cn pl k) 1) (at_ (rdq ss cn pl k) 2) (at_ (rdq ss cn pl k) 3) (at_ (rdq ss cn pl k) 4)
theorem lp_faultPlace : ∀ (f : Nat) (i pl k r n : Int) (h : MH), 0 ≤ i → i + f = 60 → PadAt h t ss cn pl k r n → pl ≤ 3 * i → Rn xs m_Pad_faultPlace 6 [vR t, vI i] [] h (some (vI (at_ (faA ss cn f pl k r n) 0))) (h.set t (pobj t cn (at_ (faA ss cn f pl k r n) 1) (at_ (faA ss cn f pl k r n) 2) (at_ (faA ss cn f pl k r n) 3) (at_ (faA ss cn f pl k r n) 4))) := by
  intro f
  induction f with
  | zero =>
    intro i pl k r n h i0 i1 hP hl
    have e0 : faA ss cn 0 pl k r n = [-6, pl, k, r, n] := rfl
    rw [e0]
    refine r_iload_n cd_Pad_faultPlace_6 rfl ?_
    refine r_bipush cd_Pad_faultPlace_7 ?_
    refine r_icmp_ge cd_Pad_faultPlace_9 ⟨by omega, by omega⟩ ⟨by decide, by decide⟩ (fun c_9 => ?_) (fun c_9 => ?_)
    · skip
      refine r_bipush cd_Pad_faultPlace_37 ?_
      exact r_iret cd_Pad_faultPlace_39 rt_Pad_faultPlace (by rfl) (by exact (set_same hP.1).symm)
    · skip
      omega
  | succ f ih =>
    intro i pl k r n h i0 i1 hP hl
    obtain ⟨p1, p2, p3, p4, p5, p6, p7⟩ := id hP
    by_cases z0 : cn ≤ pl
    · skip
      have e0 : faA ss cn (f + 1) pl k r n = [-6, pl, k, r, n] := by unfold faA; rw [if_pos z0]
      rw [e0]
      refine r_iload_n cd_Pad_faultPlace_6 rfl ?_
      refine r_bipush cd_Pad_faultPlace_7 ?_
      refine r_icmp_ge cd_Pad_faultPlace_9 ⟨by omega, by omega⟩ ⟨by decide, by decide⟩ (fun c_9 => ?_) (fun c_9 => ?_)
      · skip
        refine r_bipush cd_Pad_faultPlace_37 ?_
        exact r_iret cd_Pad_faultPlace_39 rt_Pad_faultPlace (by rfl) (by exact (set_same hP.1).symm)
      · skip
        refine r_aload_n cd_Pad_faultPlace_12 rfl ?_
        refine r_vv0 cd_Pad_faultPlace_13 rfl ck_Pad_faultPlace_Pad_isReadOut (Nat.le_of_ble_eq_true rfl) hP.1 rfl (sp_Pad_isReadOut hP (by omega)) ?_
        refine r_ifne_p cd_Pad_faultPlace_16 (fun c_16 => ?_) (fun c_16 => ?_)
        · skip
          refine r_bipush cd_Pad_faultPlace_37 ?_
          exact r_iret cd_Pad_faultPlace_39 rt_Pad_faultPlace (by rfl) (by exact (set_same hP.1).symm)
        · skip
          exact absurd z0 c_16
    · skip
      have q0 := rdq_ok ss cn pl k
      have q1 := rdq_pl ss cn pl k
      by_cases z1 : at_ (rdq ss cn pl k) 0 = 0
      · skip
        have e0 : faA ss cn (f + 1) pl k r n = [at_ (rdq ss cn pl k) 1, at_ (rdq ss cn pl k) 1, at_ (rdq ss cn pl k) 2, at_ (rdq ss cn pl k) 3, at_ (rdq ss cn pl k) 4] := by conv => { lhs; unfold faA }; rw [if_neg z0, if_pos z1]
        rw [e0]
        refine r_iload_n cd_Pad_faultPlace_6 rfl ?_
        refine r_bipush cd_Pad_faultPlace_7 ?_
        refine r_icmp_ge cd_Pad_faultPlace_9 ⟨by omega, by omega⟩ ⟨by decide, by decide⟩ (fun c_9 => ?_) (fun c_9 => ?_)
        · skip
          first | exact absurd c_16 z0 | omega
        · skip
          refine r_aload_n cd_Pad_faultPlace_12 rfl ?_
          refine r_vv0 cd_Pad_faultPlace_13 rfl ck_Pad_faultPlace_Pad_isReadOut (Nat.le_of_ble_eq_true rfl) (by first | exact gs_eq hP.1 | exact hP.1) rfl (sp_Pad_isReadOut hP (by omega)) ?_
          refine r_ifne_p cd_Pad_faultPlace_16 (fun c_16 => ?_) (fun c_16 => ?_)
          · skip
            first | exact absurd c_16 z0 | omega
          · skip
            refine r_aload_n cd_Pad_faultPlace_19 rfl ?_
            refine r_vv0 cd_Pad_faultPlace_20 rfl ck_Pad_faultPlace_Pad_readAct (Nat.le_of_ble_eq_true rfl) (by first | exact gs_eq hP.1 | exact hP.1) rfl (sp_readQ hP (by omega)) ?_
            refine r_if_ne cd_Pad_faultPlace_23 ⟨by omega, by omega⟩ (fun c_23 => ?_) (fun c_23 => ?_)
            · skip
              exact absurd z1 c_23
            · skip
              refine r_aload_n cd_Pad_faultPlace_26 rfl ?_
              refine r_getfield cd_Pad_faultPlace_27 (by first | exact gs_eq hP.1 | exact hP.1) rfl ?_
              exact r_iret cd_Pad_faultPlace_30 rt_Pad_faultPlace (by rfl) (by rfl)
      · skip
        have e0 : faA ss cn (f + 1) pl k r n = faA ss cn f (at_ (rdq ss cn pl k) 1) (at_ (rdq ss cn pl k) 2) (at_ (rdq ss cn pl k) 3) (at_ (rdq ss cn pl k) 4) := by conv => { lhs; unfold faA }; rw [if_neg z0, if_neg z1]
        rw [e0]
        refine r_iload_n cd_Pad_faultPlace_6 rfl ?_
        refine r_bipush cd_Pad_faultPlace_7 ?_
        refine r_icmp_ge cd_Pad_faultPlace_9 ⟨by omega, by omega⟩ ⟨by decide, by decide⟩ (fun c_9 => ?_) (fun c_9 => ?_)
        · skip
          first | exact absurd c_16 z0 | omega
        · skip
          refine r_aload_n cd_Pad_faultPlace_12 rfl ?_
          refine r_vv0 cd_Pad_faultPlace_13 rfl ck_Pad_faultPlace_Pad_isReadOut (Nat.le_of_ble_eq_true rfl) (by first | exact gs_eq hP.1 | exact hP.1) rfl (sp_Pad_isReadOut hP (by omega)) ?_
          refine r_ifne_p cd_Pad_faultPlace_16 (fun c_16 => ?_) (fun c_16 => ?_)
          · skip
            first | exact absurd c_16 z0 | omega
          · skip
            refine r_aload_n cd_Pad_faultPlace_19 rfl ?_
            refine r_vv0 cd_Pad_faultPlace_20 rfl ck_Pad_faultPlace_Pad_readAct (Nat.le_of_ble_eq_true rfl) (by first | exact gs_eq hP.1 | exact hP.1) rfl (sp_readQ hP (by omega)) ?_
            refine r_if_ne cd_Pad_faultPlace_23 ⟨by omega, by omega⟩ (fun c_23 => ?_) (fun c_23 => ?_)
            · skip
              refine r_iinc2_1 cd_Pad_faultPlace_31 rfl ?_
              refine r_goto cd_Pad_faultPlace_34 ?_
              (have e9 := ih (i + 1) _ _ _ _ _ (by omega) (by omega) (pad_set (pl' := at_ (rdq ss cn pl k) 1) (k' := at_ (rdq ss cn pl k) 2) (r' := at_ (rdq ss cn pl k) 3) (n' := at_ (rdq ss cn pl k) 4) hP p4 (Int.le_refl _) (by omega)) (by omega); rw [List.set_set] at e9; exact e9)
            · skip
              exact absurd c_23 z1
theorem sp_faultPlace (hP : PadAt h t ss cn pl k r n) : Sp xs m_Pad_faultPlace [vR t] h (some (vI (at_ (faA ss cn 60 0 k r n) 0))) (h.set t (pobj t cn (at_ (faA ss cn 60 0 k r n) 1) (at_ (faA ss cn 60 0 k r n) 2) (at_ (faA ss cn 60 0 k r n) 3) (at_ (faA ss cn 60 0 k r n) 4))) := by
  obtain ⟨p1, p2, p3, p4, p5, p6, p7⟩ := id hP
  have e9 := lp_faultPlace (xs := xs) 60 0 0 k r n _ (by omega) (by omega) (pad_set (pl' := 0) (k' := k) (r' := r) (n' := n) hP p4 (Int.le_refl _) (by omega)) (by omega)
  rw [List.set_set] at e9
  refine en_Pad_faultPlace ?_
  refine r_aload_n cd_Pad_faultPlace_0 rfl ?_
  refine r_vz0 cd_Pad_faultPlace_1 rfl ck_Pad_faultPlace_Pad_rewind (Nat.le_of_ble_eq_true rfl) hP.1 rfl (sp_Pad_rewind hP) ?_
  refine r_iconst cd_Pad_faultPlace_4 ?_
  refine r_istoren2_1 cd_Pad_faultPlace_5 rfl ?_
  exact e9
end C39
