-- reading an act from the pad
section C38
variable {xs : List Int} {h : MH} {t : Nat} {ss : List Int} {cn pl k r n : Int}
def wyA (pl b c k r n : Int) : List Int :=
  if b = 62 then (if 0 ≤ c - 48 ∧ c - 48 ≤ 9 then [1, pl + 1 + 1, 6, r, c - 48] else [0, pl + 1, 6, r, n])
  else if b = 60 then (if 0 ≤ c - 48 ∧ c - 48 ≤ 9 then [1, pl + 1 + 1, 6, r, -(c - 48)] else [0, pl + 1, 6, r, n])
  else [0, pl, k, r, n]
def hdA (pl b c k r n : Int) : List Int :=
  if b = 40 then [1, pl + 1, 0, r, n]
  else if b = 41 then [1, pl + 1, 1, r, n]
  else if b = 60 then (if 1 ≤ c - 48 ∧ c - 48 ≤ 9 then [1, pl + 1 + 1, 2, r, c - 48] else [0, pl + 1, 2, r, n])
  else if b = 62 then (if 1 ≤ c - 48 ∧ c - 48 ≤ 9 then [1, pl + 1 + 1, 3, r, c - 48] else [0, pl + 1, 3, r, n])
  else [0, pl, k, r, n]
def rdA (pl a b c k : Int) : List Int :=
  if a = 46 then [1, pl + 1, 8, -6, 0]
  else if a = 112 then (if 0 ≤ b - 48 ∧ b - 48 ≤ 4 then [1, pl + 1 + 1, 4, -6, b - 48] else [0, pl + 1, 4, -6, 0])
  else if a = 80 then (if 0 ≤ b - 97 ∧ b - 97 < 8 then [1, pl + 1 + 1, 5, b - 97, 0] else [0, pl + 1, 5, -6, 0])
  else if a = 115 then wyA (pl + 1) b c 6 (-6) 0
  else if a = 33 then (if 0 ≤ b - 97 ∧ b - 97 < 8 then (if 0 ≤ c - 48 ∧ c - 48 ≤ 4 then [1, pl + 1 + 1 + 1, 7, b - 97, c - 48] else [0, pl + 1 + 1, 7, b - 97, 0]) else [0, pl + 1, 7, -6, 0])
  else if 0 ≤ a - 97 ∧ a - 97 < 8 then hdA (pl + 1) b c k (a - 97) 0
  else [0, pl, k, -6, 0]
theorem wy_ok (pl b c k r n : Int) : at_ (wyA pl b c k r n) 0 = 0 ∨ at_ (wyA pl b c k r n) 0 = 1 := by
  unfold wyA
  (repeat' split) <;> first | exact Or.inl rfl | exact Or.inr rfl
theorem hd_ok (pl b c k r n : Int) : at_ (hdA pl b c k r n) 0 = 0 ∨ at_ (hdA pl b c k r n) 0 = 1 := by
  unfold hdA
  (repeat' split) <;> first | exact Or.inl rfl | exact Or.inr rfl
def PSp (xs : List Int) (m : Nat) (h : MH) (t : Nat) (cn : Int) (R : List Int) : Prop := Sp xs m [vR t] h (some (vI (at_ R 0))) (h.set t (pobj t cn (at_ R 1) (at_ R 2) (at_ R 3) (at_ R 4)))
theorem sp_takesWay (hP : PadAt h t ss cn pl k r n) (hl : pl ≤ 900) : PSp xs m_Pad_takesWay h t cn (wyA pl (sg ss cn pl) (sg ss cn (pl + 1)) k r n) := by
  obtain ⟨p1, p2, p3, p4, p5, p6, p7⟩ := id hP
  by_cases z0 : sg ss cn pl = 62
  · skip
    by_cases z1 : 0 ≤ sg ss cn (pl + 1) - 48 ∧ sg ss cn (pl + 1) - 48 ≤ 9
    · skip
      have e0 : wyA pl (sg ss cn pl) (sg ss cn (pl + 1)) k r n = [1, pl + 1 + 1, 6, r, sg ss cn (pl + 1) - 48] := by unfold wyA; rw [if_pos z0, if_pos z1]
      rw [e0]
      show Sp xs m_Pad_takesWay [vR t] h (some (vI 1)) (h.set t (pobj t cn (pl + 1 + 1) (6) (r) (sg ss cn (pl + 1) - 48)))
      refine en_Pad_takesWay ?_
      refine r_aload_n cd_Pad_takesWay_0 rfl ?_
      refine r_bipush cd_Pad_takesWay_1 ?_
      refine r_bipush cd_Pad_takesWay_3 ?_
      refine r_vv2 cd_Pad_takesWay_5 rfl ck_Pad_takesWay_Pad_takes (Nat.le_of_ble_eq_true rfl) (by first | exact gs_eq (gs_eq (gs_eq hP.1)) | exact gs_eq (gs_eq hP.1) | exact gs_eq hP.1 | exact hP.1) rfl (sp_takes_t hP (by omega) ⟨by decide, by decide⟩ (by omega)) ?_
      refine r_if_eq cd_Pad_takesWay_8 ⟨by decide, by decide⟩ (fun c_8 => absurd c_8 (by decide)) (fun _ => ?_)
      refine r_aload_n cd_Pad_takesWay_11 rfl ?_
      refine r_iconst cd_Pad_takesWay_12 ?_
      refine r_bipush cd_Pad_takesWay_13 ?_
      refine r_vv2 cd_Pad_takesWay_15 rfl ck_Pad_takesWay_Pad_takesDigit (Nat.le_of_ble_eq_true rfl) (by first | exact gs_eq (gs_eq (gs_eq hP.1)) | exact gs_eq (gs_eq hP.1) | exact gs_eq hP.1 | exact hP.1) rfl (sp_takesDigit_t (pad_set hP (by omega) (by omega) (by omega)) (by omega) ⟨by decide, by decide⟩ ⟨by decide, by decide⟩ (by omega)) ?_
      exact r_zretc cd_Pad_takesWay_18 rt_Pad_takesWay (by decide) (by first | rfl | omega | (split <;> first | rfl | omega)) (by first | (simp only [List.set_set]; done) | (simp only [List.set_set]; rfl) | exact (set_same hP.1).symm | rfl)
    · skip
      have e0 : wyA pl (sg ss cn pl) (sg ss cn (pl + 1)) k r n = [0, pl + 1, 6, r, n] := by unfold wyA; rw [if_pos z0, if_neg z1]
      rw [e0]
      show Sp xs m_Pad_takesWay [vR t] h (some (vI 0)) (h.set t (pobj t cn (pl + 1) (6) (r) (n)))
      refine en_Pad_takesWay ?_
      refine r_aload_n cd_Pad_takesWay_0 rfl ?_
      refine r_bipush cd_Pad_takesWay_1 ?_
      refine r_bipush cd_Pad_takesWay_3 ?_
      refine r_vv2 cd_Pad_takesWay_5 rfl ck_Pad_takesWay_Pad_takes (Nat.le_of_ble_eq_true rfl) (by first | exact gs_eq (gs_eq (gs_eq hP.1)) | exact gs_eq (gs_eq hP.1) | exact gs_eq hP.1 | exact hP.1) rfl (sp_takes_t hP (by omega) ⟨by decide, by decide⟩ (by omega)) ?_
      refine r_if_eq cd_Pad_takesWay_8 ⟨by decide, by decide⟩ (fun c_8 => absurd c_8 (by decide)) (fun _ => ?_)
      refine r_aload_n cd_Pad_takesWay_11 rfl ?_
      refine r_iconst cd_Pad_takesWay_12 ?_
      refine r_bipush cd_Pad_takesWay_13 ?_
      refine r_vv2 cd_Pad_takesWay_15 rfl ck_Pad_takesWay_Pad_takesDigit (Nat.le_of_ble_eq_true rfl) (by first | exact gs_eq (gs_eq (gs_eq hP.1)) | exact gs_eq (gs_eq hP.1) | exact gs_eq hP.1 | exact hP.1) rfl (sp_takesDigit_f (pad_set hP (by omega) (by omega) (by omega)) (by omega) ⟨by decide, by decide⟩ ⟨by decide, by decide⟩ (by omega)) ?_
      exact r_zretc cd_Pad_takesWay_18 rt_Pad_takesWay (by decide) (by first | rfl | omega | (split <;> first | rfl | omega)) (by first | (simp only [List.set_set]; done) | (simp only [List.set_set]; rfl) | exact (set_same hP.1).symm | rfl)
  · skip
    by_cases z1 : sg ss cn pl = 60
    · skip
      by_cases z2 : 0 ≤ sg ss cn (pl + 1) - 48 ∧ sg ss cn (pl + 1) - 48 ≤ 9
      · skip
        have e0 : wyA pl (sg ss cn pl) (sg ss cn (pl + 1)) k r n = [1, pl + 1 + 1, 6, r, -(sg ss cn (pl + 1) - 48)] := by unfold wyA; rw [if_neg z0, if_pos z1, if_pos z2]
        rw [e0]
        show Sp xs m_Pad_takesWay [vR t] h (some (vI 1)) (h.set t (pobj t cn (pl + 1 + 1) (6) (r) (-(sg ss cn (pl + 1) - 48))))
        refine en_Pad_takesWay ?_
        refine r_aload_n cd_Pad_takesWay_0 rfl ?_
        refine r_bipush cd_Pad_takesWay_1 ?_
        refine r_bipush cd_Pad_takesWay_3 ?_
        refine r_vv2 cd_Pad_takesWay_5 rfl ck_Pad_takesWay_Pad_takes (Nat.le_of_ble_eq_true rfl) (by first | exact gs_eq (gs_eq (gs_eq hP.1)) | exact gs_eq (gs_eq hP.1) | exact gs_eq hP.1 | exact hP.1) rfl (sp_takes_f hP (by omega) ⟨by decide, by decide⟩ (by omega)) ?_
        refine r_if_eq cd_Pad_takesWay_8 ⟨by decide, by decide⟩ (fun _ => ?_) (fun c_8 => absurd c_8 (by decide))
        refine r_aload_n cd_Pad_takesWay_19 rfl ?_
        refine r_bipush cd_Pad_takesWay_20 ?_
        refine r_bipush cd_Pad_takesWay_22 ?_
        refine r_vv2 cd_Pad_takesWay_24 rfl ck_Pad_takesWay_Pad_takes (Nat.le_of_ble_eq_true rfl) (by first | exact gs_eq (gs_eq (gs_eq hP.1)) | exact gs_eq (gs_eq hP.1) | exact gs_eq hP.1 | exact hP.1) rfl (sp_takes_t hP (by omega) ⟨by decide, by decide⟩ (by omega)) ?_
        refine r_if_eq cd_Pad_takesWay_27 ⟨by decide, by decide⟩ (fun c_27 => absurd c_27 (by decide)) (fun _ => ?_)
        refine r_aload_n cd_Pad_takesWay_30 rfl ?_
        refine r_iconst cd_Pad_takesWay_31 ?_
        refine r_bipush cd_Pad_takesWay_32 ?_
        refine r_vv2 cd_Pad_takesWay_34 rfl ck_Pad_takesWay_Pad_takesDigit (Nat.le_of_ble_eq_true rfl) (by first | exact gs_eq (gs_eq (gs_eq hP.1)) | exact gs_eq (gs_eq hP.1) | exact gs_eq hP.1 | exact hP.1) rfl (sp_takesDigit_t (pad_set hP (by omega) (by omega) (by omega)) (by omega) ⟨by decide, by decide⟩ ⟨by decide, by decide⟩ (by omega)) ?_
        refine r_if_ne cd_Pad_takesWay_37 ⟨by decide, by decide⟩ (fun _ => ?_) (fun c_37 => absurd c_37 (by decide))
        refine r_aload_n cd_Pad_takesWay_42 rfl ?_
        refine r_aload_n cd_Pad_takesWay_43 rfl ?_
        refine r_getfield cd_Pad_takesWay_44 (by first | exact gs_eq (gs_eq (gs_eq hP.1)) | exact gs_eq (gs_eq hP.1) | exact gs_eq hP.1 | exact hP.1) rfl ?_
        refine r_ineg cd_Pad_takesWay_47 ?_
        refine r_putfield cd_Pad_takesWay_48 (by first | exact gs_eq (gs_eq (gs_eq hP.1)) | exact gs_eq (gs_eq hP.1) | exact gs_eq hP.1 | exact hP.1) (Nat.le_of_ble_eq_true rfl) rfl ?_
        refine r_iconst cd_Pad_takesWay_51 ?_
        exact r_zretc cd_Pad_takesWay_52 rt_Pad_takesWay (by decide) (by first | rfl | omega | (split <;> first | rfl | omega)) (by first | (simp only [List.set_set]; done) | (simp only [List.set_set]; rfl) | exact (set_same hP.1).symm | rfl)
      · skip
        have e0 : wyA pl (sg ss cn pl) (sg ss cn (pl + 1)) k r n = [0, pl + 1, 6, r, n] := by unfold wyA; rw [if_neg z0, if_pos z1, if_neg z2]
        rw [e0]
        show Sp xs m_Pad_takesWay [vR t] h (some (vI 0)) (h.set t (pobj t cn (pl + 1) (6) (r) (n)))
        refine en_Pad_takesWay ?_
        refine r_aload_n cd_Pad_takesWay_0 rfl ?_
        refine r_bipush cd_Pad_takesWay_1 ?_
        refine r_bipush cd_Pad_takesWay_3 ?_
        refine r_vv2 cd_Pad_takesWay_5 rfl ck_Pad_takesWay_Pad_takes (Nat.le_of_ble_eq_true rfl) (by first | exact gs_eq (gs_eq (gs_eq hP.1)) | exact gs_eq (gs_eq hP.1) | exact gs_eq hP.1 | exact hP.1) rfl (sp_takes_f hP (by omega) ⟨by decide, by decide⟩ (by omega)) ?_
        refine r_if_eq cd_Pad_takesWay_8 ⟨by decide, by decide⟩ (fun _ => ?_) (fun c_8 => absurd c_8 (by decide))
        refine r_aload_n cd_Pad_takesWay_19 rfl ?_
        refine r_bipush cd_Pad_takesWay_20 ?_
        refine r_bipush cd_Pad_takesWay_22 ?_
        refine r_vv2 cd_Pad_takesWay_24 rfl ck_Pad_takesWay_Pad_takes (Nat.le_of_ble_eq_true rfl) (by first | exact gs_eq (gs_eq (gs_eq hP.1)) | exact gs_eq (gs_eq hP.1) | exact gs_eq hP.1 | exact hP.1) rfl (sp_takes_t hP (by omega) ⟨by decide, by decide⟩ (by omega)) ?_
        refine r_if_eq cd_Pad_takesWay_27 ⟨by decide, by decide⟩ (fun c_27 => absurd c_27 (by decide)) (fun _ => ?_)
        refine r_aload_n cd_Pad_takesWay_30 rfl ?_
        refine r_iconst cd_Pad_takesWay_31 ?_
        refine r_bipush cd_Pad_takesWay_32 ?_
        refine r_vv2 cd_Pad_takesWay_34 rfl ck_Pad_takesWay_Pad_takesDigit (Nat.le_of_ble_eq_true rfl) (by first | exact gs_eq (gs_eq (gs_eq hP.1)) | exact gs_eq (gs_eq hP.1) | exact gs_eq hP.1 | exact hP.1) rfl (sp_takesDigit_f (pad_set hP (by omega) (by omega) (by omega)) (by omega) ⟨by decide, by decide⟩ ⟨by decide, by decide⟩ (by omega)) ?_
        refine r_if_ne cd_Pad_takesWay_37 ⟨by decide, by decide⟩ (fun c_37 => absurd c_37 (by decide)) (fun _ => ?_)
        refine r_iconst cd_Pad_takesWay_40 ?_
        exact r_zretc cd_Pad_takesWay_41 rt_Pad_takesWay (by decide) (by first | rfl | omega | (split <;> first | rfl | omega)) (by first | (simp only [List.set_set]; done) | (simp only [List.set_set]; rfl) | exact (set_same hP.1).symm | rfl)
    · skip
      have e0 : wyA pl (sg ss cn pl) (sg ss cn (pl + 1)) k r n = [0, pl, k, r, n] := by unfold wyA; rw [if_neg z0, if_neg z1]
      rw [e0]
      show Sp xs m_Pad_takesWay [vR t] h (some (vI 0)) (h.set t (pobj t cn (pl) (k) (r) (n)))
      refine en_Pad_takesWay ?_
      refine r_aload_n cd_Pad_takesWay_0 rfl ?_
      refine r_bipush cd_Pad_takesWay_1 ?_
      refine r_bipush cd_Pad_takesWay_3 ?_
      refine r_vv2 cd_Pad_takesWay_5 rfl ck_Pad_takesWay_Pad_takes (Nat.le_of_ble_eq_true rfl) (by first | exact gs_eq (gs_eq (gs_eq hP.1)) | exact gs_eq (gs_eq hP.1) | exact gs_eq hP.1 | exact hP.1) rfl (sp_takes_f hP (by omega) ⟨by decide, by decide⟩ (by omega)) ?_
      refine r_if_eq cd_Pad_takesWay_8 ⟨by decide, by decide⟩ (fun _ => ?_) (fun c_8 => absurd c_8 (by decide))
      refine r_aload_n cd_Pad_takesWay_19 rfl ?_
      refine r_bipush cd_Pad_takesWay_20 ?_
      refine r_bipush cd_Pad_takesWay_22 ?_
      refine r_vv2 cd_Pad_takesWay_24 rfl ck_Pad_takesWay_Pad_takes (Nat.le_of_ble_eq_true rfl) (by first | exact gs_eq (gs_eq (gs_eq hP.1)) | exact gs_eq (gs_eq hP.1) | exact gs_eq hP.1 | exact hP.1) rfl (sp_takes_f hP (by omega) ⟨by decide, by decide⟩ (by omega)) ?_
      refine r_if_eq cd_Pad_takesWay_27 ⟨by decide, by decide⟩ (fun _ => ?_) (fun c_27 => absurd c_27 (by decide))
      refine r_iconst cd_Pad_takesWay_40 ?_
      exact r_zretc cd_Pad_takesWay_41 rt_Pad_takesWay (by decide) (by first | rfl | omega | (split <;> first | rfl | omega)) (by first | (simp only [List.set_set]; done) | (simp only [List.set_set]; rfl) | exact (set_same hP.1).symm | rfl)
theorem sp_takesHandling (hP : PadAt h t ss cn pl k r n) (hl : pl ≤ 900) : PSp xs m_Pad_takesHandling h t cn (hdA pl (sg ss cn pl) (sg ss cn (pl + 1)) k r n) := by
  obtain ⟨p1, p2, p3, p4, p5, p6, p7⟩ := id hP
  by_cases z0 : sg ss cn pl = 40
  · skip
    have e0 : hdA pl (sg ss cn pl) (sg ss cn (pl + 1)) k r n = [1, pl + 1, 0, r, n] := by unfold hdA; rw [if_pos z0]
    rw [e0]
    show Sp xs m_Pad_takesHandling [vR t] h (some (vI 1)) (h.set t (pobj t cn (pl + 1) (0) (r) (n)))
    refine en_Pad_takesHandling ?_
    refine r_aload_n cd_Pad_takesHandling_0 rfl ?_
    refine r_bipush cd_Pad_takesHandling_1 ?_
    refine r_iconst cd_Pad_takesHandling_3 ?_
    refine r_vv2 cd_Pad_takesHandling_4 rfl ck_Pad_takesHandling_Pad_takes (Nat.le_of_ble_eq_true rfl) (by first | exact gs_eq (gs_eq (gs_eq hP.1)) | exact gs_eq (gs_eq hP.1) | exact gs_eq hP.1 | exact hP.1) rfl (sp_takes_t hP (by omega) ⟨by decide, by decide⟩ (by omega)) ?_
    refine r_if_ne cd_Pad_takesHandling_7 ⟨by decide, by decide⟩ (fun _ => ?_) (fun c_7 => absurd c_7 (by decide))
    refine r_iconst cd_Pad_takesHandling_20 ?_
    exact r_zretc cd_Pad_takesHandling_21 rt_Pad_takesHandling (by decide) (by first | rfl | omega | (split <;> first | rfl | omega)) (by first | (simp only [List.set_set]; done) | (simp only [List.set_set]; rfl) | exact (set_same hP.1).symm | rfl)
  · skip
    by_cases z1 : sg ss cn pl = 41
    · skip
      have e0 : hdA pl (sg ss cn pl) (sg ss cn (pl + 1)) k r n = [1, pl + 1, 1, r, n] := by unfold hdA; rw [if_neg z0, if_pos z1]
      rw [e0]
      show Sp xs m_Pad_takesHandling [vR t] h (some (vI 1)) (h.set t (pobj t cn (pl + 1) (1) (r) (n)))
      refine en_Pad_takesHandling ?_
      refine r_aload_n cd_Pad_takesHandling_0 rfl ?_
      refine r_bipush cd_Pad_takesHandling_1 ?_
      refine r_iconst cd_Pad_takesHandling_3 ?_
      refine r_vv2 cd_Pad_takesHandling_4 rfl ck_Pad_takesHandling_Pad_takes (Nat.le_of_ble_eq_true rfl) (by first | exact gs_eq (gs_eq (gs_eq hP.1)) | exact gs_eq (gs_eq hP.1) | exact gs_eq hP.1 | exact hP.1) rfl (sp_takes_f hP (by omega) ⟨by decide, by decide⟩ (by omega)) ?_
      refine r_if_ne cd_Pad_takesHandling_7 ⟨by decide, by decide⟩ (fun c_7 => absurd c_7 (by decide)) (fun _ => ?_)
      refine r_aload_n cd_Pad_takesHandling_10 rfl ?_
      refine r_bipush cd_Pad_takesHandling_11 ?_
      refine r_iconst cd_Pad_takesHandling_13 ?_
      refine r_vv2 cd_Pad_takesHandling_14 rfl ck_Pad_takesHandling_Pad_takes (Nat.le_of_ble_eq_true rfl) (by first | exact gs_eq (gs_eq (gs_eq hP.1)) | exact gs_eq (gs_eq hP.1) | exact gs_eq hP.1 | exact hP.1) rfl (sp_takes_t hP (by omega) ⟨by decide, by decide⟩ (by omega)) ?_
      refine r_if_eq cd_Pad_takesHandling_17 ⟨by decide, by decide⟩ (fun c_17 => absurd c_17 (by decide)) (fun _ => ?_)
      refine r_iconst cd_Pad_takesHandling_20 ?_
      exact r_zretc cd_Pad_takesHandling_21 rt_Pad_takesHandling (by decide) (by first | rfl | omega | (split <;> first | rfl | omega)) (by first | (simp only [List.set_set]; done) | (simp only [List.set_set]; rfl) | exact (set_same hP.1).symm | rfl)
    · skip
      by_cases z2 : sg ss cn pl = 60
      · skip
        by_cases z3 : 1 ≤ sg ss cn (pl + 1) - 48 ∧ sg ss cn (pl + 1) - 48 ≤ 9
        · skip
          have e0 : hdA pl (sg ss cn pl) (sg ss cn (pl + 1)) k r n = [1, pl + 1 + 1, 2, r, sg ss cn (pl + 1) - 48] := by unfold hdA; rw [if_neg z0, if_neg z1, if_pos z2, if_pos z3]
          rw [e0]
          show Sp xs m_Pad_takesHandling [vR t] h (some (vI 1)) (h.set t (pobj t cn (pl + 1 + 1) (2) (r) (sg ss cn (pl + 1) - 48)))
          refine en_Pad_takesHandling ?_
          refine r_aload_n cd_Pad_takesHandling_0 rfl ?_
          refine r_bipush cd_Pad_takesHandling_1 ?_
          refine r_iconst cd_Pad_takesHandling_3 ?_
          refine r_vv2 cd_Pad_takesHandling_4 rfl ck_Pad_takesHandling_Pad_takes (Nat.le_of_ble_eq_true rfl) (by first | exact gs_eq (gs_eq (gs_eq hP.1)) | exact gs_eq (gs_eq hP.1) | exact gs_eq hP.1 | exact hP.1) rfl (sp_takes_f hP (by omega) ⟨by decide, by decide⟩ (by omega)) ?_
          refine r_if_ne cd_Pad_takesHandling_7 ⟨by decide, by decide⟩ (fun c_7 => absurd c_7 (by decide)) (fun _ => ?_)
          refine r_aload_n cd_Pad_takesHandling_10 rfl ?_
          refine r_bipush cd_Pad_takesHandling_11 ?_
          refine r_iconst cd_Pad_takesHandling_13 ?_
          refine r_vv2 cd_Pad_takesHandling_14 rfl ck_Pad_takesHandling_Pad_takes (Nat.le_of_ble_eq_true rfl) (by first | exact gs_eq (gs_eq (gs_eq hP.1)) | exact gs_eq (gs_eq hP.1) | exact gs_eq hP.1 | exact hP.1) rfl (sp_takes_f hP (by omega) ⟨by decide, by decide⟩ (by omega)) ?_
          refine r_if_eq cd_Pad_takesHandling_17 ⟨by decide, by decide⟩ (fun _ => ?_) (fun c_17 => absurd c_17 (by decide))
          refine r_aload_n cd_Pad_takesHandling_22 rfl ?_
          refine r_bipush cd_Pad_takesHandling_23 ?_
          refine r_iconst cd_Pad_takesHandling_25 ?_
          refine r_vv2 cd_Pad_takesHandling_26 rfl ck_Pad_takesHandling_Pad_takes (Nat.le_of_ble_eq_true rfl) (by first | exact gs_eq (gs_eq (gs_eq hP.1)) | exact gs_eq (gs_eq hP.1) | exact gs_eq hP.1 | exact hP.1) rfl (sp_takes_t hP (by omega) ⟨by decide, by decide⟩ (by omega)) ?_
          refine r_if_ne cd_Pad_takesHandling_29 ⟨by decide, by decide⟩ (fun _ => ?_) (fun c_29 => absurd c_29 (by decide))
          refine r_aload_n cd_Pad_takesHandling_42 rfl ?_
          refine r_iconst cd_Pad_takesHandling_43 ?_
          refine r_bipush cd_Pad_takesHandling_44 ?_
          refine r_vv2 cd_Pad_takesHandling_46 rfl ck_Pad_takesHandling_Pad_takesDigit (Nat.le_of_ble_eq_true rfl) (by first | exact gs_eq (gs_eq (gs_eq hP.1)) | exact gs_eq (gs_eq hP.1) | exact gs_eq hP.1 | exact hP.1) rfl (sp_takesDigit_t (pad_set hP (by omega) (by omega) (by omega)) (by omega) ⟨by decide, by decide⟩ ⟨by decide, by decide⟩ (by omega)) ?_
          refine r_if_eq cd_Pad_takesHandling_49 ⟨by decide, by decide⟩ (fun c_49 => absurd c_49 (by decide)) (fun _ => ?_)
          refine r_iconst cd_Pad_takesHandling_52 ?_
          refine r_goto cd_Pad_takesHandling_53 ?_
          exact r_zretc cd_Pad_takesHandling_57 rt_Pad_takesHandling (by decide) (by first | rfl | omega | (split <;> first | rfl | omega)) (by first | (simp only [List.set_set]; done) | (simp only [List.set_set]; rfl) | exact (set_same hP.1).symm | rfl)
        · skip
          have e0 : hdA pl (sg ss cn pl) (sg ss cn (pl + 1)) k r n = [0, pl + 1, 2, r, n] := by unfold hdA; rw [if_neg z0, if_neg z1, if_pos z2, if_neg z3]
          rw [e0]
          show Sp xs m_Pad_takesHandling [vR t] h (some (vI 0)) (h.set t (pobj t cn (pl + 1) (2) (r) (n)))
          refine en_Pad_takesHandling ?_
          refine r_aload_n cd_Pad_takesHandling_0 rfl ?_
          refine r_bipush cd_Pad_takesHandling_1 ?_
          refine r_iconst cd_Pad_takesHandling_3 ?_
          refine r_vv2 cd_Pad_takesHandling_4 rfl ck_Pad_takesHandling_Pad_takes (Nat.le_of_ble_eq_true rfl) (by first | exact gs_eq (gs_eq (gs_eq hP.1)) | exact gs_eq (gs_eq hP.1) | exact gs_eq hP.1 | exact hP.1) rfl (sp_takes_f hP (by omega) ⟨by decide, by decide⟩ (by omega)) ?_
          refine r_if_ne cd_Pad_takesHandling_7 ⟨by decide, by decide⟩ (fun c_7 => absurd c_7 (by decide)) (fun _ => ?_)
          refine r_aload_n cd_Pad_takesHandling_10 rfl ?_
          refine r_bipush cd_Pad_takesHandling_11 ?_
          refine r_iconst cd_Pad_takesHandling_13 ?_
          refine r_vv2 cd_Pad_takesHandling_14 rfl ck_Pad_takesHandling_Pad_takes (Nat.le_of_ble_eq_true rfl) (by first | exact gs_eq (gs_eq (gs_eq hP.1)) | exact gs_eq (gs_eq hP.1) | exact gs_eq hP.1 | exact hP.1) rfl (sp_takes_f hP (by omega) ⟨by decide, by decide⟩ (by omega)) ?_
          refine r_if_eq cd_Pad_takesHandling_17 ⟨by decide, by decide⟩ (fun _ => ?_) (fun c_17 => absurd c_17 (by decide))
          refine r_aload_n cd_Pad_takesHandling_22 rfl ?_
          refine r_bipush cd_Pad_takesHandling_23 ?_
          refine r_iconst cd_Pad_takesHandling_25 ?_
          refine r_vv2 cd_Pad_takesHandling_26 rfl ck_Pad_takesHandling_Pad_takes (Nat.le_of_ble_eq_true rfl) (by first | exact gs_eq (gs_eq (gs_eq hP.1)) | exact gs_eq (gs_eq hP.1) | exact gs_eq hP.1 | exact hP.1) rfl (sp_takes_t hP (by omega) ⟨by decide, by decide⟩ (by omega)) ?_
          refine r_if_ne cd_Pad_takesHandling_29 ⟨by decide, by decide⟩ (fun _ => ?_) (fun c_29 => absurd c_29 (by decide))
          refine r_aload_n cd_Pad_takesHandling_42 rfl ?_
          refine r_iconst cd_Pad_takesHandling_43 ?_
          refine r_bipush cd_Pad_takesHandling_44 ?_
          refine r_vv2 cd_Pad_takesHandling_46 rfl ck_Pad_takesHandling_Pad_takesDigit (Nat.le_of_ble_eq_true rfl) (by first | exact gs_eq (gs_eq (gs_eq hP.1)) | exact gs_eq (gs_eq hP.1) | exact gs_eq hP.1 | exact hP.1) rfl (sp_takesDigit_f (pad_set hP (by omega) (by omega) (by omega)) (by omega) ⟨by decide, by decide⟩ ⟨by decide, by decide⟩ (by omega)) ?_
          refine r_if_eq cd_Pad_takesHandling_49 ⟨by decide, by decide⟩ (fun _ => ?_) (fun c_49 => absurd c_49 (by decide))
          refine r_iconst cd_Pad_takesHandling_56 ?_
          exact r_zretc cd_Pad_takesHandling_57 rt_Pad_takesHandling (by decide) (by first | rfl | omega | (split <;> first | rfl | omega)) (by first | (simp only [List.set_set]; done) | (simp only [List.set_set]; rfl) | exact (set_same hP.1).symm | rfl)
      · skip
        by_cases z3 : sg ss cn pl = 62
        · skip
          by_cases z4 : 1 ≤ sg ss cn (pl + 1) - 48 ∧ sg ss cn (pl + 1) - 48 ≤ 9
          · skip
            have e0 : hdA pl (sg ss cn pl) (sg ss cn (pl + 1)) k r n = [1, pl + 1 + 1, 3, r, sg ss cn (pl + 1) - 48] := by unfold hdA; rw [if_neg z0, if_neg z1, if_neg z2, if_pos z3, if_pos z4]
            rw [e0]
            show Sp xs m_Pad_takesHandling [vR t] h (some (vI 1)) (h.set t (pobj t cn (pl + 1 + 1) (3) (r) (sg ss cn (pl + 1) - 48)))
            refine en_Pad_takesHandling ?_
            refine r_aload_n cd_Pad_takesHandling_0 rfl ?_
            refine r_bipush cd_Pad_takesHandling_1 ?_
            refine r_iconst cd_Pad_takesHandling_3 ?_
            refine r_vv2 cd_Pad_takesHandling_4 rfl ck_Pad_takesHandling_Pad_takes (Nat.le_of_ble_eq_true rfl) (by first | exact gs_eq (gs_eq (gs_eq hP.1)) | exact gs_eq (gs_eq hP.1) | exact gs_eq hP.1 | exact hP.1) rfl (sp_takes_f hP (by omega) ⟨by decide, by decide⟩ (by omega)) ?_
            refine r_if_ne cd_Pad_takesHandling_7 ⟨by decide, by decide⟩ (fun c_7 => absurd c_7 (by decide)) (fun _ => ?_)
            refine r_aload_n cd_Pad_takesHandling_10 rfl ?_
            refine r_bipush cd_Pad_takesHandling_11 ?_
            refine r_iconst cd_Pad_takesHandling_13 ?_
            refine r_vv2 cd_Pad_takesHandling_14 rfl ck_Pad_takesHandling_Pad_takes (Nat.le_of_ble_eq_true rfl) (by first | exact gs_eq (gs_eq (gs_eq hP.1)) | exact gs_eq (gs_eq hP.1) | exact gs_eq hP.1 | exact hP.1) rfl (sp_takes_f hP (by omega) ⟨by decide, by decide⟩ (by omega)) ?_
            refine r_if_eq cd_Pad_takesHandling_17 ⟨by decide, by decide⟩ (fun _ => ?_) (fun c_17 => absurd c_17 (by decide))
            refine r_aload_n cd_Pad_takesHandling_22 rfl ?_
            refine r_bipush cd_Pad_takesHandling_23 ?_
            refine r_iconst cd_Pad_takesHandling_25 ?_
            refine r_vv2 cd_Pad_takesHandling_26 rfl ck_Pad_takesHandling_Pad_takes (Nat.le_of_ble_eq_true rfl) (by first | exact gs_eq (gs_eq (gs_eq hP.1)) | exact gs_eq (gs_eq hP.1) | exact gs_eq hP.1 | exact hP.1) rfl (sp_takes_f hP (by omega) ⟨by decide, by decide⟩ (by omega)) ?_
            refine r_if_ne cd_Pad_takesHandling_29 ⟨by decide, by decide⟩ (fun c_29 => absurd c_29 (by decide)) (fun _ => ?_)
            refine r_aload_n cd_Pad_takesHandling_32 rfl ?_
            refine r_bipush cd_Pad_takesHandling_33 ?_
            refine r_iconst cd_Pad_takesHandling_35 ?_
            refine r_vv2 cd_Pad_takesHandling_36 rfl ck_Pad_takesHandling_Pad_takes (Nat.le_of_ble_eq_true rfl) (by first | exact gs_eq (gs_eq (gs_eq hP.1)) | exact gs_eq (gs_eq hP.1) | exact gs_eq hP.1 | exact hP.1) rfl (sp_takes_t hP (by omega) ⟨by decide, by decide⟩ (by omega)) ?_
            refine r_if_eq cd_Pad_takesHandling_39 ⟨by decide, by decide⟩ (fun c_39 => absurd c_39 (by decide)) (fun _ => ?_)
            refine r_aload_n cd_Pad_takesHandling_42 rfl ?_
            refine r_iconst cd_Pad_takesHandling_43 ?_
            refine r_bipush cd_Pad_takesHandling_44 ?_
            refine r_vv2 cd_Pad_takesHandling_46 rfl ck_Pad_takesHandling_Pad_takesDigit (Nat.le_of_ble_eq_true rfl) (by first | exact gs_eq (gs_eq (gs_eq hP.1)) | exact gs_eq (gs_eq hP.1) | exact gs_eq hP.1 | exact hP.1) rfl (sp_takesDigit_t (pad_set hP (by omega) (by omega) (by omega)) (by omega) ⟨by decide, by decide⟩ ⟨by decide, by decide⟩ (by omega)) ?_
            refine r_if_eq cd_Pad_takesHandling_49 ⟨by decide, by decide⟩ (fun c_49 => absurd c_49 (by decide)) (fun _ => ?_)
            refine r_iconst cd_Pad_takesHandling_52 ?_
            refine r_goto cd_Pad_takesHandling_53 ?_
            exact r_zretc cd_Pad_takesHandling_57 rt_Pad_takesHandling (by decide) (by first | rfl | omega | (split <;> first | rfl | omega)) (by first | (simp only [List.set_set]; done) | (simp only [List.set_set]; rfl) | exact (set_same hP.1).symm | rfl)
          · skip
            have e0 : hdA pl (sg ss cn pl) (sg ss cn (pl + 1)) k r n = [0, pl + 1, 3, r, n] := by unfold hdA; rw [if_neg z0, if_neg z1, if_neg z2, if_pos z3, if_neg z4]
            rw [e0]
            show Sp xs m_Pad_takesHandling [vR t] h (some (vI 0)) (h.set t (pobj t cn (pl + 1) (3) (r) (n)))
            refine en_Pad_takesHandling ?_
            refine r_aload_n cd_Pad_takesHandling_0 rfl ?_
            refine r_bipush cd_Pad_takesHandling_1 ?_
            refine r_iconst cd_Pad_takesHandling_3 ?_
            refine r_vv2 cd_Pad_takesHandling_4 rfl ck_Pad_takesHandling_Pad_takes (Nat.le_of_ble_eq_true rfl) (by first | exact gs_eq (gs_eq (gs_eq hP.1)) | exact gs_eq (gs_eq hP.1) | exact gs_eq hP.1 | exact hP.1) rfl (sp_takes_f hP (by omega) ⟨by decide, by decide⟩ (by omega)) ?_
            refine r_if_ne cd_Pad_takesHandling_7 ⟨by decide, by decide⟩ (fun c_7 => absurd c_7 (by decide)) (fun _ => ?_)
            refine r_aload_n cd_Pad_takesHandling_10 rfl ?_
            refine r_bipush cd_Pad_takesHandling_11 ?_
            refine r_iconst cd_Pad_takesHandling_13 ?_
            refine r_vv2 cd_Pad_takesHandling_14 rfl ck_Pad_takesHandling_Pad_takes (Nat.le_of_ble_eq_true rfl) (by first | exact gs_eq (gs_eq (gs_eq hP.1)) | exact gs_eq (gs_eq hP.1) | exact gs_eq hP.1 | exact hP.1) rfl (sp_takes_f hP (by omega) ⟨by decide, by decide⟩ (by omega)) ?_
            refine r_if_eq cd_Pad_takesHandling_17 ⟨by decide, by decide⟩ (fun _ => ?_) (fun c_17 => absurd c_17 (by decide))
            refine r_aload_n cd_Pad_takesHandling_22 rfl ?_
            refine r_bipush cd_Pad_takesHandling_23 ?_
            refine r_iconst cd_Pad_takesHandling_25 ?_
            refine r_vv2 cd_Pad_takesHandling_26 rfl ck_Pad_takesHandling_Pad_takes (Nat.le_of_ble_eq_true rfl) (by first | exact gs_eq (gs_eq (gs_eq hP.1)) | exact gs_eq (gs_eq hP.1) | exact gs_eq hP.1 | exact hP.1) rfl (sp_takes_f hP (by omega) ⟨by decide, by decide⟩ (by omega)) ?_
            refine r_if_ne cd_Pad_takesHandling_29 ⟨by decide, by decide⟩ (fun c_29 => absurd c_29 (by decide)) (fun _ => ?_)
            refine r_aload_n cd_Pad_takesHandling_32 rfl ?_
            refine r_bipush cd_Pad_takesHandling_33 ?_
            refine r_iconst cd_Pad_takesHandling_35 ?_
            refine r_vv2 cd_Pad_takesHandling_36 rfl ck_Pad_takesHandling_Pad_takes (Nat.le_of_ble_eq_true rfl) (by first | exact gs_eq (gs_eq (gs_eq hP.1)) | exact gs_eq (gs_eq hP.1) | exact gs_eq hP.1 | exact hP.1) rfl (sp_takes_t hP (by omega) ⟨by decide, by decide⟩ (by omega)) ?_
            refine r_if_eq cd_Pad_takesHandling_39 ⟨by decide, by decide⟩ (fun c_39 => absurd c_39 (by decide)) (fun _ => ?_)
            refine r_aload_n cd_Pad_takesHandling_42 rfl ?_
            refine r_iconst cd_Pad_takesHandling_43 ?_
            refine r_bipush cd_Pad_takesHandling_44 ?_
            refine r_vv2 cd_Pad_takesHandling_46 rfl ck_Pad_takesHandling_Pad_takesDigit (Nat.le_of_ble_eq_true rfl) (by first | exact gs_eq (gs_eq (gs_eq hP.1)) | exact gs_eq (gs_eq hP.1) | exact gs_eq hP.1 | exact hP.1) rfl (sp_takesDigit_f (pad_set hP (by omega) (by omega) (by omega)) (by omega) ⟨by decide, by decide⟩ ⟨by decide, by decide⟩ (by omega)) ?_
            refine r_if_eq cd_Pad_takesHandling_49 ⟨by decide, by decide⟩ (fun _ => ?_) (fun c_49 => absurd c_49 (by decide))
            refine r_iconst cd_Pad_takesHandling_56 ?_
            exact r_zretc cd_Pad_takesHandling_57 rt_Pad_takesHandling (by decide) (by first | rfl | omega | (split <;> first | rfl | omega)) (by first | (simp only [List.set_set]; done) | (simp only [List.set_set]; rfl) | exact (set_same hP.1).symm | rfl)
        · skip
          have e0 : hdA pl (sg ss cn pl) (sg ss cn (pl + 1)) k r n = [0, pl, k, r, n] := by unfold hdA; rw [if_neg z0, if_neg z1, if_neg z2, if_neg z3]
          rw [e0]
          show Sp xs m_Pad_takesHandling [vR t] h (some (vI 0)) (h.set t (pobj t cn (pl) (k) (r) (n)))
          refine en_Pad_takesHandling ?_
          refine r_aload_n cd_Pad_takesHandling_0 rfl ?_
          refine r_bipush cd_Pad_takesHandling_1 ?_
          refine r_iconst cd_Pad_takesHandling_3 ?_
          refine r_vv2 cd_Pad_takesHandling_4 rfl ck_Pad_takesHandling_Pad_takes (Nat.le_of_ble_eq_true rfl) (by first | exact gs_eq (gs_eq (gs_eq hP.1)) | exact gs_eq (gs_eq hP.1) | exact gs_eq hP.1 | exact hP.1) rfl (sp_takes_f hP (by omega) ⟨by decide, by decide⟩ (by omega)) ?_
          refine r_if_ne cd_Pad_takesHandling_7 ⟨by decide, by decide⟩ (fun c_7 => absurd c_7 (by decide)) (fun _ => ?_)
          refine r_aload_n cd_Pad_takesHandling_10 rfl ?_
          refine r_bipush cd_Pad_takesHandling_11 ?_
          refine r_iconst cd_Pad_takesHandling_13 ?_
          refine r_vv2 cd_Pad_takesHandling_14 rfl ck_Pad_takesHandling_Pad_takes (Nat.le_of_ble_eq_true rfl) (by first | exact gs_eq (gs_eq (gs_eq hP.1)) | exact gs_eq (gs_eq hP.1) | exact gs_eq hP.1 | exact hP.1) rfl (sp_takes_f hP (by omega) ⟨by decide, by decide⟩ (by omega)) ?_
          refine r_if_eq cd_Pad_takesHandling_17 ⟨by decide, by decide⟩ (fun _ => ?_) (fun c_17 => absurd c_17 (by decide))
          refine r_aload_n cd_Pad_takesHandling_22 rfl ?_
          refine r_bipush cd_Pad_takesHandling_23 ?_
          refine r_iconst cd_Pad_takesHandling_25 ?_
          refine r_vv2 cd_Pad_takesHandling_26 rfl ck_Pad_takesHandling_Pad_takes (Nat.le_of_ble_eq_true rfl) (by first | exact gs_eq (gs_eq (gs_eq hP.1)) | exact gs_eq (gs_eq hP.1) | exact gs_eq hP.1 | exact hP.1) rfl (sp_takes_f hP (by omega) ⟨by decide, by decide⟩ (by omega)) ?_
          refine r_if_ne cd_Pad_takesHandling_29 ⟨by decide, by decide⟩ (fun c_29 => absurd c_29 (by decide)) (fun _ => ?_)
          refine r_aload_n cd_Pad_takesHandling_32 rfl ?_
          refine r_bipush cd_Pad_takesHandling_33 ?_
          refine r_iconst cd_Pad_takesHandling_35 ?_
          refine r_vv2 cd_Pad_takesHandling_36 rfl ck_Pad_takesHandling_Pad_takes (Nat.le_of_ble_eq_true rfl) (by first | exact gs_eq (gs_eq (gs_eq hP.1)) | exact gs_eq (gs_eq hP.1) | exact gs_eq hP.1 | exact hP.1) rfl (sp_takes_f hP (by omega) ⟨by decide, by decide⟩ (by omega)) ?_
          refine r_if_eq cd_Pad_takesHandling_39 ⟨by decide, by decide⟩ (fun _ => ?_) (fun c_39 => absurd c_39 (by decide))
          refine r_iconst cd_Pad_takesHandling_56 ?_
          exact r_zretc cd_Pad_takesHandling_57 rt_Pad_takesHandling (by decide) (by first | rfl | omega | (split <;> first | rfl | omega)) (by first | (simp only [List.set_set]; done) | (simp only [List.set_set]; rfl) | exact (set_same hP.1).symm | rfl)
theorem rd_11 (hP : PadAt h t ss cn pl k (-6) 0) (hl : pl ≤ 800) : Rn xs m_Pad_readAct 11 [vR t] [] h (some (vI (at_ (rdA pl (sg ss cn pl) (sg ss cn (pl + 1)) (sg ss cn (pl + 1 + 1)) k) 0))) (h.set t (pobj t cn (at_ (rdA pl (sg ss cn pl) (sg ss cn (pl + 1)) (sg ss cn (pl + 1 + 1)) k) 1) (at_ (rdA pl (sg ss cn pl) (sg ss cn (pl + 1)) (sg ss cn (pl + 1 + 1)) k) 2) (at_ (rdA pl (sg ss cn pl) (sg ss cn (pl + 1)) (sg ss cn (pl + 1 + 1)) k) 3) (at_ (rdA pl (sg ss cn pl) (sg ss cn (pl + 1)) (sg ss cn (pl + 1 + 1)) k) 4))) := by
  obtain ⟨p1, p2, p3, p4, p5, p6, p7⟩ := id hP
  by_cases z0 : sg ss cn pl = 46
  · skip
    have e0 : (rdA pl (sg ss cn pl) (sg ss cn (pl + 1)) (sg ss cn (pl + 1 + 1)) k) = [1, pl + 1, 8, -6, 0] := by unfold rdA; rw [if_pos z0]
    rw [e0]
    show Rn xs m_Pad_readAct 11 [vR t] [] h (some (vI 1)) (h.set t (pobj t cn (pl + 1) (8) (-6) (0)))
    refine r_aload_n cd_Pad_readAct_11 rfl ?_
    refine r_bipush cd_Pad_readAct_12 ?_
    refine r_bipush cd_Pad_readAct_14 ?_
    refine r_vv2 cd_Pad_readAct_16 rfl ck_Pad_readAct_Pad_takes (Nat.le_of_ble_eq_true rfl) (by first | exact gs_eq (gs_eq (gs_eq hP.1)) | exact gs_eq (gs_eq hP.1) | exact gs_eq hP.1 | exact hP.1) rfl (sp_takes_t hP (by omega) ⟨by decide, by decide⟩ (by omega)) ?_
    refine r_if_eq cd_Pad_readAct_19 ⟨by decide, by decide⟩ (fun c_19 => absurd c_19 (by decide)) (fun _ => ?_)
    refine r_iconst cd_Pad_readAct_22 ?_
    exact r_zretc cd_Pad_readAct_23 rt_Pad_readAct (by first | decide | exact wy_ok _ _ _ _ _ _ | exact hd_ok _ _ _ _ _ _) (by first | rfl | omega | (split <;> first | rfl | omega)) (by first | (simp only [List.set_set]; done) | (simp only [List.set_set]; rfl) | exact (set_same hP.1).symm | rfl)
  · skip
    by_cases z1 : sg ss cn pl = 112
    · skip
      by_cases z2 : 0 ≤ sg ss cn (pl + 1) - 48 ∧ sg ss cn (pl + 1) - 48 ≤ 4
      · skip
        have e0 : (rdA pl (sg ss cn pl) (sg ss cn (pl + 1)) (sg ss cn (pl + 1 + 1)) k) = [1, pl + 1 + 1, 4, -6, sg ss cn (pl + 1) - 48] := by unfold rdA; rw [if_neg z0, if_pos z1, if_pos z2]
        rw [e0]
        show Rn xs m_Pad_readAct 11 [vR t] [] h (some (vI 1)) (h.set t (pobj t cn (pl + 1 + 1) (4) (-6) (sg ss cn (pl + 1) - 48)))
        refine r_aload_n cd_Pad_readAct_11 rfl ?_
        refine r_bipush cd_Pad_readAct_12 ?_
        refine r_bipush cd_Pad_readAct_14 ?_
        refine r_vv2 cd_Pad_readAct_16 rfl ck_Pad_readAct_Pad_takes (Nat.le_of_ble_eq_true rfl) (by first | exact gs_eq (gs_eq (gs_eq hP.1)) | exact gs_eq (gs_eq hP.1) | exact gs_eq hP.1 | exact hP.1) rfl (sp_takes_f hP (by omega) ⟨by decide, by decide⟩ (by omega)) ?_
        refine r_if_eq cd_Pad_readAct_19 ⟨by decide, by decide⟩ (fun _ => ?_) (fun c_19 => absurd c_19 (by decide))
        refine r_aload_n cd_Pad_readAct_24 rfl ?_
        refine r_bipush cd_Pad_readAct_25 ?_
        refine r_iconst cd_Pad_readAct_27 ?_
        refine r_vv2 cd_Pad_readAct_28 rfl ck_Pad_readAct_Pad_takes (Nat.le_of_ble_eq_true rfl) (by first | exact gs_eq (gs_eq (gs_eq hP.1)) | exact gs_eq (gs_eq hP.1) | exact gs_eq hP.1 | exact hP.1) rfl (sp_takes_t hP (by omega) ⟨by decide, by decide⟩ (by omega)) ?_
        refine r_if_eq cd_Pad_readAct_31 ⟨by decide, by decide⟩ (fun c_31 => absurd c_31 (by decide)) (fun _ => ?_)
        refine r_aload_n cd_Pad_readAct_34 rfl ?_
        refine r_iconst cd_Pad_readAct_35 ?_
        refine r_iconst cd_Pad_readAct_36 ?_
        refine r_vv2 cd_Pad_readAct_37 rfl ck_Pad_readAct_Pad_takesDigit (Nat.le_of_ble_eq_true rfl) (by first | exact gs_eq (gs_eq (gs_eq hP.1)) | exact gs_eq (gs_eq hP.1) | exact gs_eq hP.1 | exact hP.1) rfl (sp_takesDigit_t (pad_set hP (by omega) (by omega) (by omega)) (by omega) ⟨by decide, by decide⟩ ⟨by decide, by decide⟩ (by omega)) ?_
        exact r_zretc cd_Pad_readAct_40 rt_Pad_readAct (by first | decide | exact wy_ok _ _ _ _ _ _ | exact hd_ok _ _ _ _ _ _) (by first | rfl | omega | (split <;> first | rfl | omega)) (by first | (simp only [List.set_set]; done) | (simp only [List.set_set]; rfl) | exact (set_same hP.1).symm | rfl)
      · skip
        have e0 : (rdA pl (sg ss cn pl) (sg ss cn (pl + 1)) (sg ss cn (pl + 1 + 1)) k) = [0, pl + 1, 4, -6, 0] := by unfold rdA; rw [if_neg z0, if_pos z1, if_neg z2]
        rw [e0]
        show Rn xs m_Pad_readAct 11 [vR t] [] h (some (vI 0)) (h.set t (pobj t cn (pl + 1) (4) (-6) (0)))
        refine r_aload_n cd_Pad_readAct_11 rfl ?_
        refine r_bipush cd_Pad_readAct_12 ?_
        refine r_bipush cd_Pad_readAct_14 ?_
        refine r_vv2 cd_Pad_readAct_16 rfl ck_Pad_readAct_Pad_takes (Nat.le_of_ble_eq_true rfl) (by first | exact gs_eq (gs_eq (gs_eq hP.1)) | exact gs_eq (gs_eq hP.1) | exact gs_eq hP.1 | exact hP.1) rfl (sp_takes_f hP (by omega) ⟨by decide, by decide⟩ (by omega)) ?_
        refine r_if_eq cd_Pad_readAct_19 ⟨by decide, by decide⟩ (fun _ => ?_) (fun c_19 => absurd c_19 (by decide))
        refine r_aload_n cd_Pad_readAct_24 rfl ?_
        refine r_bipush cd_Pad_readAct_25 ?_
        refine r_iconst cd_Pad_readAct_27 ?_
        refine r_vv2 cd_Pad_readAct_28 rfl ck_Pad_readAct_Pad_takes (Nat.le_of_ble_eq_true rfl) (by first | exact gs_eq (gs_eq (gs_eq hP.1)) | exact gs_eq (gs_eq hP.1) | exact gs_eq hP.1 | exact hP.1) rfl (sp_takes_t hP (by omega) ⟨by decide, by decide⟩ (by omega)) ?_
        refine r_if_eq cd_Pad_readAct_31 ⟨by decide, by decide⟩ (fun c_31 => absurd c_31 (by decide)) (fun _ => ?_)
        refine r_aload_n cd_Pad_readAct_34 rfl ?_
        refine r_iconst cd_Pad_readAct_35 ?_
        refine r_iconst cd_Pad_readAct_36 ?_
        refine r_vv2 cd_Pad_readAct_37 rfl ck_Pad_readAct_Pad_takesDigit (Nat.le_of_ble_eq_true rfl) (by first | exact gs_eq (gs_eq (gs_eq hP.1)) | exact gs_eq (gs_eq hP.1) | exact gs_eq hP.1 | exact hP.1) rfl (sp_takesDigit_f (pad_set hP (by omega) (by omega) (by omega)) (by omega) ⟨by decide, by decide⟩ ⟨by decide, by decide⟩ (by omega)) ?_
        exact r_zretc cd_Pad_readAct_40 rt_Pad_readAct (by first | decide | exact wy_ok _ _ _ _ _ _ | exact hd_ok _ _ _ _ _ _) (by first | rfl | omega | (split <;> first | rfl | omega)) (by first | (simp only [List.set_set]; done) | (simp only [List.set_set]; rfl) | exact (set_same hP.1).symm | rfl)
    · skip
      by_cases z2 : sg ss cn pl = 80
      · skip
        by_cases z3 : 0 ≤ sg ss cn (pl + 1) - 97 ∧ sg ss cn (pl + 1) - 97 < 8
        · skip
          have e0 : (rdA pl (sg ss cn pl) (sg ss cn (pl + 1)) (sg ss cn (pl + 1 + 1)) k) = [1, pl + 1 + 1, 5, sg ss cn (pl + 1) - 97, 0] := by unfold rdA; rw [if_neg z0, if_neg z1, if_pos z2, if_pos z3]
          rw [e0]
          show Rn xs m_Pad_readAct 11 [vR t] [] h (some (vI 1)) (h.set t (pobj t cn (pl + 1 + 1) (5) (sg ss cn (pl + 1) - 97) (0)))
          refine r_aload_n cd_Pad_readAct_11 rfl ?_
          refine r_bipush cd_Pad_readAct_12 ?_
          refine r_bipush cd_Pad_readAct_14 ?_
          refine r_vv2 cd_Pad_readAct_16 rfl ck_Pad_readAct_Pad_takes (Nat.le_of_ble_eq_true rfl) (by first | exact gs_eq (gs_eq (gs_eq hP.1)) | exact gs_eq (gs_eq hP.1) | exact gs_eq hP.1 | exact hP.1) rfl (sp_takes_f hP (by omega) ⟨by decide, by decide⟩ (by omega)) ?_
          refine r_if_eq cd_Pad_readAct_19 ⟨by decide, by decide⟩ (fun _ => ?_) (fun c_19 => absurd c_19 (by decide))
          refine r_aload_n cd_Pad_readAct_24 rfl ?_
          refine r_bipush cd_Pad_readAct_25 ?_
          refine r_iconst cd_Pad_readAct_27 ?_
          refine r_vv2 cd_Pad_readAct_28 rfl ck_Pad_readAct_Pad_takes (Nat.le_of_ble_eq_true rfl) (by first | exact gs_eq (gs_eq (gs_eq hP.1)) | exact gs_eq (gs_eq hP.1) | exact gs_eq hP.1 | exact hP.1) rfl (sp_takes_f hP (by omega) ⟨by decide, by decide⟩ (by omega)) ?_
          refine r_if_eq cd_Pad_readAct_31 ⟨by decide, by decide⟩ (fun _ => ?_) (fun c_31 => absurd c_31 (by decide))
          refine r_aload_n cd_Pad_readAct_41 rfl ?_
          refine r_bipush cd_Pad_readAct_42 ?_
          refine r_iconst cd_Pad_readAct_44 ?_
          refine r_vv2 cd_Pad_readAct_45 rfl ck_Pad_readAct_Pad_takes (Nat.le_of_ble_eq_true rfl) (by first | exact gs_eq (gs_eq (gs_eq hP.1)) | exact gs_eq (gs_eq hP.1) | exact gs_eq hP.1 | exact hP.1) rfl (sp_takes_t hP (by omega) ⟨by decide, by decide⟩ (by omega)) ?_
          refine r_if_eq cd_Pad_readAct_48 ⟨by decide, by decide⟩ (fun c_48 => absurd c_48 (by decide)) (fun _ => ?_)
          refine r_aload_n cd_Pad_readAct_51 rfl ?_
          refine r_vv0 cd_Pad_readAct_52 rfl ck_Pad_readAct_Pad_takesRod (Nat.le_of_ble_eq_true rfl) (by first | exact gs_eq (gs_eq (gs_eq hP.1)) | exact gs_eq (gs_eq hP.1) | exact gs_eq hP.1 | exact hP.1) rfl (sp_takesRod_t (pad_set hP (by omega) (by omega) (by omega)) (by omega) (by omega)) ?_
          exact r_zretc cd_Pad_readAct_55 rt_Pad_readAct (by first | decide | exact wy_ok _ _ _ _ _ _ | exact hd_ok _ _ _ _ _ _) (by first | rfl | omega | (split <;> first | rfl | omega)) (by first | (simp only [List.set_set]; done) | (simp only [List.set_set]; rfl) | exact (set_same hP.1).symm | rfl)
        · skip
          have e0 : (rdA pl (sg ss cn pl) (sg ss cn (pl + 1)) (sg ss cn (pl + 1 + 1)) k) = [0, pl + 1, 5, -6, 0] := by unfold rdA; rw [if_neg z0, if_neg z1, if_pos z2, if_neg z3]
          rw [e0]
          show Rn xs m_Pad_readAct 11 [vR t] [] h (some (vI 0)) (h.set t (pobj t cn (pl + 1) (5) (-6) (0)))
          refine r_aload_n cd_Pad_readAct_11 rfl ?_
          refine r_bipush cd_Pad_readAct_12 ?_
          refine r_bipush cd_Pad_readAct_14 ?_
          refine r_vv2 cd_Pad_readAct_16 rfl ck_Pad_readAct_Pad_takes (Nat.le_of_ble_eq_true rfl) (by first | exact gs_eq (gs_eq (gs_eq hP.1)) | exact gs_eq (gs_eq hP.1) | exact gs_eq hP.1 | exact hP.1) rfl (sp_takes_f hP (by omega) ⟨by decide, by decide⟩ (by omega)) ?_
          refine r_if_eq cd_Pad_readAct_19 ⟨by decide, by decide⟩ (fun _ => ?_) (fun c_19 => absurd c_19 (by decide))
          refine r_aload_n cd_Pad_readAct_24 rfl ?_
          refine r_bipush cd_Pad_readAct_25 ?_
          refine r_iconst cd_Pad_readAct_27 ?_
          refine r_vv2 cd_Pad_readAct_28 rfl ck_Pad_readAct_Pad_takes (Nat.le_of_ble_eq_true rfl) (by first | exact gs_eq (gs_eq (gs_eq hP.1)) | exact gs_eq (gs_eq hP.1) | exact gs_eq hP.1 | exact hP.1) rfl (sp_takes_f hP (by omega) ⟨by decide, by decide⟩ (by omega)) ?_
          refine r_if_eq cd_Pad_readAct_31 ⟨by decide, by decide⟩ (fun _ => ?_) (fun c_31 => absurd c_31 (by decide))
          refine r_aload_n cd_Pad_readAct_41 rfl ?_
          refine r_bipush cd_Pad_readAct_42 ?_
          refine r_iconst cd_Pad_readAct_44 ?_
          refine r_vv2 cd_Pad_readAct_45 rfl ck_Pad_readAct_Pad_takes (Nat.le_of_ble_eq_true rfl) (by first | exact gs_eq (gs_eq (gs_eq hP.1)) | exact gs_eq (gs_eq hP.1) | exact gs_eq hP.1 | exact hP.1) rfl (sp_takes_t hP (by omega) ⟨by decide, by decide⟩ (by omega)) ?_
          refine r_if_eq cd_Pad_readAct_48 ⟨by decide, by decide⟩ (fun c_48 => absurd c_48 (by decide)) (fun _ => ?_)
          refine r_aload_n cd_Pad_readAct_51 rfl ?_
          refine r_vv0 cd_Pad_readAct_52 rfl ck_Pad_readAct_Pad_takesRod (Nat.le_of_ble_eq_true rfl) (by first | exact gs_eq (gs_eq (gs_eq hP.1)) | exact gs_eq (gs_eq hP.1) | exact gs_eq hP.1 | exact hP.1) rfl (sp_takesRod_f (pad_set hP (by omega) (by omega) (by omega)) (by omega) (by omega)) ?_
          exact r_zretc cd_Pad_readAct_55 rt_Pad_readAct (by first | decide | exact wy_ok _ _ _ _ _ _ | exact hd_ok _ _ _ _ _ _) (by first | rfl | omega | (split <;> first | rfl | omega)) (by first | (simp only [List.set_set]; done) | (simp only [List.set_set]; rfl) | exact (set_same hP.1).symm | rfl)
      · skip
        by_cases z3 : sg ss cn pl = 115
        · skip
          have e0 : (rdA pl (sg ss cn pl) (sg ss cn (pl + 1)) (sg ss cn (pl + 1 + 1)) k) = wyA (pl + 1) (sg ss cn (pl + 1)) (sg ss cn (pl + 1 + 1)) 6 (-6) 0 := by unfold rdA; rw [if_neg z0, if_neg z1, if_neg z2, if_pos z3]
          rw [e0]
          refine r_aload_n cd_Pad_readAct_11 rfl ?_
          refine r_bipush cd_Pad_readAct_12 ?_
          refine r_bipush cd_Pad_readAct_14 ?_
          refine r_vv2 cd_Pad_readAct_16 rfl ck_Pad_readAct_Pad_takes (Nat.le_of_ble_eq_true rfl) (by first | exact gs_eq (gs_eq (gs_eq hP.1)) | exact gs_eq (gs_eq hP.1) | exact gs_eq hP.1 | exact hP.1) rfl (sp_takes_f hP (by omega) ⟨by decide, by decide⟩ (by omega)) ?_
          refine r_if_eq cd_Pad_readAct_19 ⟨by decide, by decide⟩ (fun _ => ?_) (fun c_19 => absurd c_19 (by decide))
          refine r_aload_n cd_Pad_readAct_24 rfl ?_
          refine r_bipush cd_Pad_readAct_25 ?_
          refine r_iconst cd_Pad_readAct_27 ?_
          refine r_vv2 cd_Pad_readAct_28 rfl ck_Pad_readAct_Pad_takes (Nat.le_of_ble_eq_true rfl) (by first | exact gs_eq (gs_eq (gs_eq hP.1)) | exact gs_eq (gs_eq hP.1) | exact gs_eq hP.1 | exact hP.1) rfl (sp_takes_f hP (by omega) ⟨by decide, by decide⟩ (by omega)) ?_
          refine r_if_eq cd_Pad_readAct_31 ⟨by decide, by decide⟩ (fun _ => ?_) (fun c_31 => absurd c_31 (by decide))
          refine r_aload_n cd_Pad_readAct_41 rfl ?_
          refine r_bipush cd_Pad_readAct_42 ?_
          refine r_iconst cd_Pad_readAct_44 ?_
          refine r_vv2 cd_Pad_readAct_45 rfl ck_Pad_readAct_Pad_takes (Nat.le_of_ble_eq_true rfl) (by first | exact gs_eq (gs_eq (gs_eq hP.1)) | exact gs_eq (gs_eq hP.1) | exact gs_eq hP.1 | exact hP.1) rfl (sp_takes_f hP (by omega) ⟨by decide, by decide⟩ (by omega)) ?_
          refine r_if_eq cd_Pad_readAct_48 ⟨by decide, by decide⟩ (fun _ => ?_) (fun c_48 => absurd c_48 (by decide))
          refine r_aload_n cd_Pad_readAct_56 rfl ?_
          refine r_bipush cd_Pad_readAct_57 ?_
          refine r_bipush cd_Pad_readAct_59 ?_
          refine r_vv2 cd_Pad_readAct_61 rfl ck_Pad_readAct_Pad_takes (Nat.le_of_ble_eq_true rfl) (by first | exact gs_eq (gs_eq (gs_eq hP.1)) | exact gs_eq (gs_eq hP.1) | exact gs_eq hP.1 | exact hP.1) rfl (sp_takes_t hP (by omega) ⟨by decide, by decide⟩ (by omega)) ?_
          refine r_if_eq cd_Pad_readAct_64 ⟨by decide, by decide⟩ (fun c_64 => absurd c_64 (by decide)) (fun _ => ?_)
          refine r_aload_n cd_Pad_readAct_67 rfl ?_
          refine r_vv0 cd_Pad_readAct_68 rfl ck_Pad_readAct_Pad_takesWay (Nat.le_of_ble_eq_true rfl) (by first | exact gs_eq (gs_eq (gs_eq hP.1)) | exact gs_eq (gs_eq hP.1) | exact gs_eq hP.1 | exact hP.1) rfl (sp_takesWay (pad_set hP (by omega) (by omega) (by omega)) (by omega)) ?_
          exact r_zretc cd_Pad_readAct_71 rt_Pad_readAct (by first | decide | exact wy_ok _ _ _ _ _ _ | exact hd_ok _ _ _ _ _ _) (by first | rfl | omega | (split <;> first | rfl | omega)) (by first | (simp only [List.set_set]; done) | (simp only [List.set_set]; rfl) | exact (set_same hP.1).symm | rfl)
        · skip
          by_cases z4 : sg ss cn pl = 33
          · skip
            by_cases z5 : 0 ≤ sg ss cn (pl + 1) - 97 ∧ sg ss cn (pl + 1) - 97 < 8
            · skip
              by_cases z6 : 0 ≤ sg ss cn (pl + 1 + 1) - 48 ∧ sg ss cn (pl + 1 + 1) - 48 ≤ 4
              · skip
                have e0 : (rdA pl (sg ss cn pl) (sg ss cn (pl + 1)) (sg ss cn (pl + 1 + 1)) k) = [1, pl + 1 + 1 + 1, 7, sg ss cn (pl + 1) - 97, sg ss cn (pl + 1 + 1) - 48] := by unfold rdA; rw [if_neg z0, if_neg z1, if_neg z2, if_neg z3, if_pos z4, if_pos z5, if_pos z6]
                rw [e0]
                show Rn xs m_Pad_readAct 11 [vR t] [] h (some (vI 1)) (h.set t (pobj t cn (pl + 1 + 1 + 1) (7) (sg ss cn (pl + 1) - 97) (sg ss cn (pl + 1 + 1) - 48)))
                refine r_aload_n cd_Pad_readAct_11 rfl ?_
                refine r_bipush cd_Pad_readAct_12 ?_
                refine r_bipush cd_Pad_readAct_14 ?_
                refine r_vv2 cd_Pad_readAct_16 rfl ck_Pad_readAct_Pad_takes (Nat.le_of_ble_eq_true rfl) (by first | exact gs_eq (gs_eq (gs_eq hP.1)) | exact gs_eq (gs_eq hP.1) | exact gs_eq hP.1 | exact hP.1) rfl (sp_takes_f hP (by omega) ⟨by decide, by decide⟩ (by omega)) ?_
                refine r_if_eq cd_Pad_readAct_19 ⟨by decide, by decide⟩ (fun _ => ?_) (fun c_19 => absurd c_19 (by decide))
                refine r_aload_n cd_Pad_readAct_24 rfl ?_
                refine r_bipush cd_Pad_readAct_25 ?_
                refine r_iconst cd_Pad_readAct_27 ?_
                refine r_vv2 cd_Pad_readAct_28 rfl ck_Pad_readAct_Pad_takes (Nat.le_of_ble_eq_true rfl) (by first | exact gs_eq (gs_eq (gs_eq hP.1)) | exact gs_eq (gs_eq hP.1) | exact gs_eq hP.1 | exact hP.1) rfl (sp_takes_f hP (by omega) ⟨by decide, by decide⟩ (by omega)) ?_
                refine r_if_eq cd_Pad_readAct_31 ⟨by decide, by decide⟩ (fun _ => ?_) (fun c_31 => absurd c_31 (by decide))
                refine r_aload_n cd_Pad_readAct_41 rfl ?_
                refine r_bipush cd_Pad_readAct_42 ?_
                refine r_iconst cd_Pad_readAct_44 ?_
                refine r_vv2 cd_Pad_readAct_45 rfl ck_Pad_readAct_Pad_takes (Nat.le_of_ble_eq_true rfl) (by first | exact gs_eq (gs_eq (gs_eq hP.1)) | exact gs_eq (gs_eq hP.1) | exact gs_eq hP.1 | exact hP.1) rfl (sp_takes_f hP (by omega) ⟨by decide, by decide⟩ (by omega)) ?_
                refine r_if_eq cd_Pad_readAct_48 ⟨by decide, by decide⟩ (fun _ => ?_) (fun c_48 => absurd c_48 (by decide))
                refine r_aload_n cd_Pad_readAct_56 rfl ?_
                refine r_bipush cd_Pad_readAct_57 ?_
                refine r_bipush cd_Pad_readAct_59 ?_
                refine r_vv2 cd_Pad_readAct_61 rfl ck_Pad_readAct_Pad_takes (Nat.le_of_ble_eq_true rfl) (by first | exact gs_eq (gs_eq (gs_eq hP.1)) | exact gs_eq (gs_eq hP.1) | exact gs_eq hP.1 | exact hP.1) rfl (sp_takes_f hP (by omega) ⟨by decide, by decide⟩ (by omega)) ?_
                refine r_if_eq cd_Pad_readAct_64 ⟨by decide, by decide⟩ (fun _ => ?_) (fun c_64 => absurd c_64 (by decide))
                refine r_aload_n cd_Pad_readAct_72 rfl ?_
                refine r_bipush cd_Pad_readAct_73 ?_
                refine r_bipush cd_Pad_readAct_75 ?_
                refine r_vv2 cd_Pad_readAct_77 rfl ck_Pad_readAct_Pad_takes (Nat.le_of_ble_eq_true rfl) (by first | exact gs_eq (gs_eq (gs_eq hP.1)) | exact gs_eq (gs_eq hP.1) | exact gs_eq hP.1 | exact hP.1) rfl (sp_takes_t hP (by omega) ⟨by decide, by decide⟩ (by omega)) ?_
                refine r_if_eq cd_Pad_readAct_80 ⟨by decide, by decide⟩ (fun c_80 => absurd c_80 (by decide)) (fun _ => ?_)
                refine r_aload_n cd_Pad_readAct_83 rfl ?_
                refine r_vv0 cd_Pad_readAct_84 rfl ck_Pad_readAct_Pad_takesRod (Nat.le_of_ble_eq_true rfl) (by first | exact gs_eq (gs_eq (gs_eq hP.1)) | exact gs_eq (gs_eq hP.1) | exact gs_eq hP.1 | exact hP.1) rfl (sp_takesRod_t (pad_set hP (by omega) (by omega) (by omega)) (by omega) (by omega)) ?_
                refine r_if_eq cd_Pad_readAct_87 ⟨by decide, by decide⟩ (fun c_87 => absurd c_87 (by decide)) (fun _ => ?_)
                refine r_aload_n cd_Pad_readAct_90 rfl ?_
                refine r_iconst cd_Pad_readAct_91 ?_
                refine r_iconst cd_Pad_readAct_92 ?_
                refine r_vv2 cd_Pad_readAct_93 rfl ck_Pad_readAct_Pad_takesDigit (Nat.le_of_ble_eq_true rfl) (by first | exact gs_eq (gs_eq (gs_eq hP.1)) | exact gs_eq (gs_eq hP.1) | exact gs_eq hP.1 | exact hP.1) rfl (sp_takesDigit_t (pad_set (pad_set hP (by omega) (by omega) (by omega)) (by omega) (by omega) (by omega)) (by omega) ⟨by decide, by decide⟩ ⟨by decide, by decide⟩ (by omega)) ?_
                refine r_if_eq cd_Pad_readAct_96 ⟨by decide, by decide⟩ (fun c_96 => absurd c_96 (by decide)) (fun _ => ?_)
                refine r_iconst cd_Pad_readAct_99 ?_
                refine r_goto cd_Pad_readAct_100 ?_
                exact r_zretc cd_Pad_readAct_104 rt_Pad_readAct (by first | decide | exact wy_ok _ _ _ _ _ _ | exact hd_ok _ _ _ _ _ _) (by first | rfl | omega | (split <;> first | rfl | omega)) (by first | (simp only [List.set_set]; done) | (simp only [List.set_set]; rfl) | exact (set_same hP.1).symm | rfl)
              · skip
                have e0 : (rdA pl (sg ss cn pl) (sg ss cn (pl + 1)) (sg ss cn (pl + 1 + 1)) k) = [0, pl + 1 + 1, 7, sg ss cn (pl + 1) - 97, 0] := by unfold rdA; rw [if_neg z0, if_neg z1, if_neg z2, if_neg z3, if_pos z4, if_pos z5, if_neg z6]
                rw [e0]
                show Rn xs m_Pad_readAct 11 [vR t] [] h (some (vI 0)) (h.set t (pobj t cn (pl + 1 + 1) (7) (sg ss cn (pl + 1) - 97) (0)))
                refine r_aload_n cd_Pad_readAct_11 rfl ?_
                refine r_bipush cd_Pad_readAct_12 ?_
                refine r_bipush cd_Pad_readAct_14 ?_
                refine r_vv2 cd_Pad_readAct_16 rfl ck_Pad_readAct_Pad_takes (Nat.le_of_ble_eq_true rfl) (by first | exact gs_eq (gs_eq (gs_eq hP.1)) | exact gs_eq (gs_eq hP.1) | exact gs_eq hP.1 | exact hP.1) rfl (sp_takes_f hP (by omega) ⟨by decide, by decide⟩ (by omega)) ?_
                refine r_if_eq cd_Pad_readAct_19 ⟨by decide, by decide⟩ (fun _ => ?_) (fun c_19 => absurd c_19 (by decide))
                refine r_aload_n cd_Pad_readAct_24 rfl ?_
                refine r_bipush cd_Pad_readAct_25 ?_
                refine r_iconst cd_Pad_readAct_27 ?_
                refine r_vv2 cd_Pad_readAct_28 rfl ck_Pad_readAct_Pad_takes (Nat.le_of_ble_eq_true rfl) (by first | exact gs_eq (gs_eq (gs_eq hP.1)) | exact gs_eq (gs_eq hP.1) | exact gs_eq hP.1 | exact hP.1) rfl (sp_takes_f hP (by omega) ⟨by decide, by decide⟩ (by omega)) ?_
                refine r_if_eq cd_Pad_readAct_31 ⟨by decide, by decide⟩ (fun _ => ?_) (fun c_31 => absurd c_31 (by decide))
                refine r_aload_n cd_Pad_readAct_41 rfl ?_
                refine r_bipush cd_Pad_readAct_42 ?_
                refine r_iconst cd_Pad_readAct_44 ?_
                refine r_vv2 cd_Pad_readAct_45 rfl ck_Pad_readAct_Pad_takes (Nat.le_of_ble_eq_true rfl) (by first | exact gs_eq (gs_eq (gs_eq hP.1)) | exact gs_eq (gs_eq hP.1) | exact gs_eq hP.1 | exact hP.1) rfl (sp_takes_f hP (by omega) ⟨by decide, by decide⟩ (by omega)) ?_
                refine r_if_eq cd_Pad_readAct_48 ⟨by decide, by decide⟩ (fun _ => ?_) (fun c_48 => absurd c_48 (by decide))
                refine r_aload_n cd_Pad_readAct_56 rfl ?_
                refine r_bipush cd_Pad_readAct_57 ?_
                refine r_bipush cd_Pad_readAct_59 ?_
                refine r_vv2 cd_Pad_readAct_61 rfl ck_Pad_readAct_Pad_takes (Nat.le_of_ble_eq_true rfl) (by first | exact gs_eq (gs_eq (gs_eq hP.1)) | exact gs_eq (gs_eq hP.1) | exact gs_eq hP.1 | exact hP.1) rfl (sp_takes_f hP (by omega) ⟨by decide, by decide⟩ (by omega)) ?_
                refine r_if_eq cd_Pad_readAct_64 ⟨by decide, by decide⟩ (fun _ => ?_) (fun c_64 => absurd c_64 (by decide))
                refine r_aload_n cd_Pad_readAct_72 rfl ?_
                refine r_bipush cd_Pad_readAct_73 ?_
                refine r_bipush cd_Pad_readAct_75 ?_
                refine r_vv2 cd_Pad_readAct_77 rfl ck_Pad_readAct_Pad_takes (Nat.le_of_ble_eq_true rfl) (by first | exact gs_eq (gs_eq (gs_eq hP.1)) | exact gs_eq (gs_eq hP.1) | exact gs_eq hP.1 | exact hP.1) rfl (sp_takes_t hP (by omega) ⟨by decide, by decide⟩ (by omega)) ?_
                refine r_if_eq cd_Pad_readAct_80 ⟨by decide, by decide⟩ (fun c_80 => absurd c_80 (by decide)) (fun _ => ?_)
                refine r_aload_n cd_Pad_readAct_83 rfl ?_
                refine r_vv0 cd_Pad_readAct_84 rfl ck_Pad_readAct_Pad_takesRod (Nat.le_of_ble_eq_true rfl) (by first | exact gs_eq (gs_eq (gs_eq hP.1)) | exact gs_eq (gs_eq hP.1) | exact gs_eq hP.1 | exact hP.1) rfl (sp_takesRod_t (pad_set hP (by omega) (by omega) (by omega)) (by omega) (by omega)) ?_
                refine r_if_eq cd_Pad_readAct_87 ⟨by decide, by decide⟩ (fun c_87 => absurd c_87 (by decide)) (fun _ => ?_)
                refine r_aload_n cd_Pad_readAct_90 rfl ?_
                refine r_iconst cd_Pad_readAct_91 ?_
                refine r_iconst cd_Pad_readAct_92 ?_
                refine r_vv2 cd_Pad_readAct_93 rfl ck_Pad_readAct_Pad_takesDigit (Nat.le_of_ble_eq_true rfl) (by first | exact gs_eq (gs_eq (gs_eq hP.1)) | exact gs_eq (gs_eq hP.1) | exact gs_eq hP.1 | exact hP.1) rfl (sp_takesDigit_f (pad_set (pad_set hP (by omega) (by omega) (by omega)) (by omega) (by omega) (by omega)) (by omega) ⟨by decide, by decide⟩ ⟨by decide, by decide⟩ (by omega)) ?_
                refine r_if_eq cd_Pad_readAct_96 ⟨by decide, by decide⟩ (fun _ => ?_) (fun c_96 => absurd c_96 (by decide))
                refine r_iconst cd_Pad_readAct_103 ?_
                exact r_zretc cd_Pad_readAct_104 rt_Pad_readAct (by first | decide | exact wy_ok _ _ _ _ _ _ | exact hd_ok _ _ _ _ _ _) (by first | rfl | omega | (split <;> first | rfl | omega)) (by first | (simp only [List.set_set]; done) | (simp only [List.set_set]; rfl) | exact (set_same hP.1).symm | rfl)
            · skip
              have e0 : (rdA pl (sg ss cn pl) (sg ss cn (pl + 1)) (sg ss cn (pl + 1 + 1)) k) = [0, pl + 1, 7, -6, 0] := by unfold rdA; rw [if_neg z0, if_neg z1, if_neg z2, if_neg z3, if_pos z4, if_neg z5]
              rw [e0]
              show Rn xs m_Pad_readAct 11 [vR t] [] h (some (vI 0)) (h.set t (pobj t cn (pl + 1) (7) (-6) (0)))
              refine r_aload_n cd_Pad_readAct_11 rfl ?_
              refine r_bipush cd_Pad_readAct_12 ?_
              refine r_bipush cd_Pad_readAct_14 ?_
              refine r_vv2 cd_Pad_readAct_16 rfl ck_Pad_readAct_Pad_takes (Nat.le_of_ble_eq_true rfl) (by first | exact gs_eq (gs_eq (gs_eq hP.1)) | exact gs_eq (gs_eq hP.1) | exact gs_eq hP.1 | exact hP.1) rfl (sp_takes_f hP (by omega) ⟨by decide, by decide⟩ (by omega)) ?_
              refine r_if_eq cd_Pad_readAct_19 ⟨by decide, by decide⟩ (fun _ => ?_) (fun c_19 => absurd c_19 (by decide))
              refine r_aload_n cd_Pad_readAct_24 rfl ?_
              refine r_bipush cd_Pad_readAct_25 ?_
              refine r_iconst cd_Pad_readAct_27 ?_
              refine r_vv2 cd_Pad_readAct_28 rfl ck_Pad_readAct_Pad_takes (Nat.le_of_ble_eq_true rfl) (by first | exact gs_eq (gs_eq (gs_eq hP.1)) | exact gs_eq (gs_eq hP.1) | exact gs_eq hP.1 | exact hP.1) rfl (sp_takes_f hP (by omega) ⟨by decide, by decide⟩ (by omega)) ?_
              refine r_if_eq cd_Pad_readAct_31 ⟨by decide, by decide⟩ (fun _ => ?_) (fun c_31 => absurd c_31 (by decide))
              refine r_aload_n cd_Pad_readAct_41 rfl ?_
              refine r_bipush cd_Pad_readAct_42 ?_
              refine r_iconst cd_Pad_readAct_44 ?_
              refine r_vv2 cd_Pad_readAct_45 rfl ck_Pad_readAct_Pad_takes (Nat.le_of_ble_eq_true rfl) (by first | exact gs_eq (gs_eq (gs_eq hP.1)) | exact gs_eq (gs_eq hP.1) | exact gs_eq hP.1 | exact hP.1) rfl (sp_takes_f hP (by omega) ⟨by decide, by decide⟩ (by omega)) ?_
              refine r_if_eq cd_Pad_readAct_48 ⟨by decide, by decide⟩ (fun _ => ?_) (fun c_48 => absurd c_48 (by decide))
              refine r_aload_n cd_Pad_readAct_56 rfl ?_
              refine r_bipush cd_Pad_readAct_57 ?_
              refine r_bipush cd_Pad_readAct_59 ?_
              refine r_vv2 cd_Pad_readAct_61 rfl ck_Pad_readAct_Pad_takes (Nat.le_of_ble_eq_true rfl) (by first | exact gs_eq (gs_eq (gs_eq hP.1)) | exact gs_eq (gs_eq hP.1) | exact gs_eq hP.1 | exact hP.1) rfl (sp_takes_f hP (by omega) ⟨by decide, by decide⟩ (by omega)) ?_
              refine r_if_eq cd_Pad_readAct_64 ⟨by decide, by decide⟩ (fun _ => ?_) (fun c_64 => absurd c_64 (by decide))
              refine r_aload_n cd_Pad_readAct_72 rfl ?_
              refine r_bipush cd_Pad_readAct_73 ?_
              refine r_bipush cd_Pad_readAct_75 ?_
              refine r_vv2 cd_Pad_readAct_77 rfl ck_Pad_readAct_Pad_takes (Nat.le_of_ble_eq_true rfl) (by first | exact gs_eq (gs_eq (gs_eq hP.1)) | exact gs_eq (gs_eq hP.1) | exact gs_eq hP.1 | exact hP.1) rfl (sp_takes_t hP (by omega) ⟨by decide, by decide⟩ (by omega)) ?_
              refine r_if_eq cd_Pad_readAct_80 ⟨by decide, by decide⟩ (fun c_80 => absurd c_80 (by decide)) (fun _ => ?_)
              refine r_aload_n cd_Pad_readAct_83 rfl ?_
              refine r_vv0 cd_Pad_readAct_84 rfl ck_Pad_readAct_Pad_takesRod (Nat.le_of_ble_eq_true rfl) (by first | exact gs_eq (gs_eq (gs_eq hP.1)) | exact gs_eq (gs_eq hP.1) | exact gs_eq hP.1 | exact hP.1) rfl (sp_takesRod_f (pad_set hP (by omega) (by omega) (by omega)) (by omega) (by omega)) ?_
              refine r_if_eq cd_Pad_readAct_87 ⟨by decide, by decide⟩ (fun _ => ?_) (fun c_87 => absurd c_87 (by decide))
              refine r_iconst cd_Pad_readAct_103 ?_
              exact r_zretc cd_Pad_readAct_104 rt_Pad_readAct (by first | decide | exact wy_ok _ _ _ _ _ _ | exact hd_ok _ _ _ _ _ _) (by first | rfl | omega | (split <;> first | rfl | omega)) (by first | (simp only [List.set_set]; done) | (simp only [List.set_set]; rfl) | exact (set_same hP.1).symm | rfl)
          · skip
            by_cases z5 : 0 ≤ sg ss cn pl - 97 ∧ sg ss cn pl - 97 < 8
            · skip
              have e0 : (rdA pl (sg ss cn pl) (sg ss cn (pl + 1)) (sg ss cn (pl + 1 + 1)) k) = hdA (pl + 1) (sg ss cn (pl + 1)) (sg ss cn (pl + 1 + 1)) k (sg ss cn pl - 97) 0 := by unfold rdA; rw [if_neg z0, if_neg z1, if_neg z2, if_neg z3, if_neg z4, if_pos z5]
              rw [e0]
              have q := hd_ok (pl + 1) (sg ss cn (pl + 1)) (sg ss cn (pl + 1 + 1)) k (sg ss cn pl - 97) 0
              refine r_aload_n cd_Pad_readAct_11 rfl ?_
              refine r_bipush cd_Pad_readAct_12 ?_
              refine r_bipush cd_Pad_readAct_14 ?_
              refine r_vv2 cd_Pad_readAct_16 rfl ck_Pad_readAct_Pad_takes (Nat.le_of_ble_eq_true rfl) (by first | exact gs_eq (gs_eq (gs_eq hP.1)) | exact gs_eq (gs_eq hP.1) | exact gs_eq hP.1 | exact hP.1) rfl (sp_takes_f hP (by omega) ⟨by decide, by decide⟩ (by omega)) ?_
              refine r_if_eq cd_Pad_readAct_19 ⟨by decide, by decide⟩ (fun _ => ?_) (fun c_19 => absurd c_19 (by decide))
              refine r_aload_n cd_Pad_readAct_24 rfl ?_
              refine r_bipush cd_Pad_readAct_25 ?_
              refine r_iconst cd_Pad_readAct_27 ?_
              refine r_vv2 cd_Pad_readAct_28 rfl ck_Pad_readAct_Pad_takes (Nat.le_of_ble_eq_true rfl) (by first | exact gs_eq (gs_eq (gs_eq hP.1)) | exact gs_eq (gs_eq hP.1) | exact gs_eq hP.1 | exact hP.1) rfl (sp_takes_f hP (by omega) ⟨by decide, by decide⟩ (by omega)) ?_
              refine r_if_eq cd_Pad_readAct_31 ⟨by decide, by decide⟩ (fun _ => ?_) (fun c_31 => absurd c_31 (by decide))
              refine r_aload_n cd_Pad_readAct_41 rfl ?_
              refine r_bipush cd_Pad_readAct_42 ?_
              refine r_iconst cd_Pad_readAct_44 ?_
              refine r_vv2 cd_Pad_readAct_45 rfl ck_Pad_readAct_Pad_takes (Nat.le_of_ble_eq_true rfl) (by first | exact gs_eq (gs_eq (gs_eq hP.1)) | exact gs_eq (gs_eq hP.1) | exact gs_eq hP.1 | exact hP.1) rfl (sp_takes_f hP (by omega) ⟨by decide, by decide⟩ (by omega)) ?_
              refine r_if_eq cd_Pad_readAct_48 ⟨by decide, by decide⟩ (fun _ => ?_) (fun c_48 => absurd c_48 (by decide))
              refine r_aload_n cd_Pad_readAct_56 rfl ?_
              refine r_bipush cd_Pad_readAct_57 ?_
              refine r_bipush cd_Pad_readAct_59 ?_
              refine r_vv2 cd_Pad_readAct_61 rfl ck_Pad_readAct_Pad_takes (Nat.le_of_ble_eq_true rfl) (by first | exact gs_eq (gs_eq (gs_eq hP.1)) | exact gs_eq (gs_eq hP.1) | exact gs_eq hP.1 | exact hP.1) rfl (sp_takes_f hP (by omega) ⟨by decide, by decide⟩ (by omega)) ?_
              refine r_if_eq cd_Pad_readAct_64 ⟨by decide, by decide⟩ (fun _ => ?_) (fun c_64 => absurd c_64 (by decide))
              refine r_aload_n cd_Pad_readAct_72 rfl ?_
              refine r_bipush cd_Pad_readAct_73 ?_
              refine r_bipush cd_Pad_readAct_75 ?_
              refine r_vv2 cd_Pad_readAct_77 rfl ck_Pad_readAct_Pad_takes (Nat.le_of_ble_eq_true rfl) (by first | exact gs_eq (gs_eq (gs_eq hP.1)) | exact gs_eq (gs_eq hP.1) | exact gs_eq hP.1 | exact hP.1) rfl (sp_takes_f hP (by omega) ⟨by decide, by decide⟩ (by omega)) ?_
              refine r_if_eq cd_Pad_readAct_80 ⟨by decide, by decide⟩ (fun _ => ?_) (fun c_80 => absurd c_80 (by decide))
              refine r_aload_n cd_Pad_readAct_105 rfl ?_
              refine r_vv0 cd_Pad_readAct_106 rfl ck_Pad_readAct_Pad_takesRod (Nat.le_of_ble_eq_true rfl) (by first | exact gs_eq (gs_eq (gs_eq hP.1)) | exact gs_eq (gs_eq hP.1) | exact gs_eq hP.1 | exact hP.1) rfl (sp_takesRod_t hP (by omega) (by omega)) ?_
              refine r_if_eq cd_Pad_readAct_109 ⟨by decide, by decide⟩ (fun c_109 => absurd c_109 (by decide)) (fun _ => ?_)
              refine r_aload_n cd_Pad_readAct_112 rfl ?_
              refine r_vv0 cd_Pad_readAct_113 rfl ck_Pad_readAct_Pad_takesHandling (Nat.le_of_ble_eq_true rfl) (by first | exact gs_eq (gs_eq (gs_eq hP.1)) | exact gs_eq (gs_eq hP.1) | exact gs_eq hP.1 | exact hP.1) rfl (sp_takesHandling (pad_set hP (by omega) (by omega) (by omega)) (by omega)) ?_
              refine r_if_eq cd_Pad_readAct_116 ⟨by omega, by omega⟩ (fun c_116 => ?_) (fun c_116 => ?_)
              · skip
                refine r_iconst cd_Pad_readAct_123 ?_
                exact r_zretc cd_Pad_readAct_124 rt_Pad_readAct (by first | decide | exact wy_ok _ _ _ _ _ _ | exact hd_ok _ _ _ _ _ _) (by first | rfl | omega | (split <;> first | rfl | omega)) (by first | (simp only [List.set_set]; done) | (simp only [List.set_set]; rfl) | exact (set_same hP.1).symm | rfl)
              · skip
                refine r_iconst cd_Pad_readAct_119 ?_
                refine r_goto cd_Pad_readAct_120 ?_
                exact r_zretc cd_Pad_readAct_124 rt_Pad_readAct (by first | decide | exact wy_ok _ _ _ _ _ _ | exact hd_ok _ _ _ _ _ _) (by first | rfl | omega | (split <;> first | rfl | omega)) (by first | (simp only [List.set_set]; done) | (simp only [List.set_set]; rfl) | exact (set_same hP.1).symm | rfl)
            · skip
              have e0 : (rdA pl (sg ss cn pl) (sg ss cn (pl + 1)) (sg ss cn (pl + 1 + 1)) k) = [0, pl, k, -6, 0] := by unfold rdA; rw [if_neg z0, if_neg z1, if_neg z2, if_neg z3, if_neg z4, if_neg z5]
              rw [e0]
              show Rn xs m_Pad_readAct 11 [vR t] [] h (some (vI 0)) (h.set t (pobj t cn (pl) (k) (-6) (0)))
              refine r_aload_n cd_Pad_readAct_11 rfl ?_
              refine r_bipush cd_Pad_readAct_12 ?_
              refine r_bipush cd_Pad_readAct_14 ?_
              refine r_vv2 cd_Pad_readAct_16 rfl ck_Pad_readAct_Pad_takes (Nat.le_of_ble_eq_true rfl) (by first | exact gs_eq (gs_eq (gs_eq hP.1)) | exact gs_eq (gs_eq hP.1) | exact gs_eq hP.1 | exact hP.1) rfl (sp_takes_f hP (by omega) ⟨by decide, by decide⟩ (by omega)) ?_
              refine r_if_eq cd_Pad_readAct_19 ⟨by decide, by decide⟩ (fun _ => ?_) (fun c_19 => absurd c_19 (by decide))
              refine r_aload_n cd_Pad_readAct_24 rfl ?_
              refine r_bipush cd_Pad_readAct_25 ?_
              refine r_iconst cd_Pad_readAct_27 ?_
              refine r_vv2 cd_Pad_readAct_28 rfl ck_Pad_readAct_Pad_takes (Nat.le_of_ble_eq_true rfl) (by first | exact gs_eq (gs_eq (gs_eq hP.1)) | exact gs_eq (gs_eq hP.1) | exact gs_eq hP.1 | exact hP.1) rfl (sp_takes_f hP (by omega) ⟨by decide, by decide⟩ (by omega)) ?_
              refine r_if_eq cd_Pad_readAct_31 ⟨by decide, by decide⟩ (fun _ => ?_) (fun c_31 => absurd c_31 (by decide))
              refine r_aload_n cd_Pad_readAct_41 rfl ?_
              refine r_bipush cd_Pad_readAct_42 ?_
              refine r_iconst cd_Pad_readAct_44 ?_
              refine r_vv2 cd_Pad_readAct_45 rfl ck_Pad_readAct_Pad_takes (Nat.le_of_ble_eq_true rfl) (by first | exact gs_eq (gs_eq (gs_eq hP.1)) | exact gs_eq (gs_eq hP.1) | exact gs_eq hP.1 | exact hP.1) rfl (sp_takes_f hP (by omega) ⟨by decide, by decide⟩ (by omega)) ?_
              refine r_if_eq cd_Pad_readAct_48 ⟨by decide, by decide⟩ (fun _ => ?_) (fun c_48 => absurd c_48 (by decide))
              refine r_aload_n cd_Pad_readAct_56 rfl ?_
              refine r_bipush cd_Pad_readAct_57 ?_
              refine r_bipush cd_Pad_readAct_59 ?_
              refine r_vv2 cd_Pad_readAct_61 rfl ck_Pad_readAct_Pad_takes (Nat.le_of_ble_eq_true rfl) (by first | exact gs_eq (gs_eq (gs_eq hP.1)) | exact gs_eq (gs_eq hP.1) | exact gs_eq hP.1 | exact hP.1) rfl (sp_takes_f hP (by omega) ⟨by decide, by decide⟩ (by omega)) ?_
              refine r_if_eq cd_Pad_readAct_64 ⟨by decide, by decide⟩ (fun _ => ?_) (fun c_64 => absurd c_64 (by decide))
              refine r_aload_n cd_Pad_readAct_72 rfl ?_
              refine r_bipush cd_Pad_readAct_73 ?_
              refine r_bipush cd_Pad_readAct_75 ?_
              refine r_vv2 cd_Pad_readAct_77 rfl ck_Pad_readAct_Pad_takes (Nat.le_of_ble_eq_true rfl) (by first | exact gs_eq (gs_eq (gs_eq hP.1)) | exact gs_eq (gs_eq hP.1) | exact gs_eq hP.1 | exact hP.1) rfl (sp_takes_f hP (by omega) ⟨by decide, by decide⟩ (by omega)) ?_
              refine r_if_eq cd_Pad_readAct_80 ⟨by decide, by decide⟩ (fun _ => ?_) (fun c_80 => absurd c_80 (by decide))
              refine r_aload_n cd_Pad_readAct_105 rfl ?_
              refine r_vv0 cd_Pad_readAct_106 rfl ck_Pad_readAct_Pad_takesRod (Nat.le_of_ble_eq_true rfl) (by first | exact gs_eq (gs_eq (gs_eq hP.1)) | exact gs_eq (gs_eq hP.1) | exact gs_eq hP.1 | exact hP.1) rfl (sp_takesRod_f hP (by omega) (by omega)) ?_
              refine r_if_eq cd_Pad_readAct_109 ⟨by decide, by decide⟩ (fun _ => ?_) (fun c_109 => absurd c_109 (by decide))
              refine r_iconst cd_Pad_readAct_123 ?_
              exact r_zretc cd_Pad_readAct_124 rt_Pad_readAct (by first | decide | exact wy_ok _ _ _ _ _ _ | exact hd_ok _ _ _ _ _ _) (by first | rfl | omega | (split <;> first | rfl | omega)) (by first | (simp only [List.set_set]; done) | (simp only [List.set_set]; rfl) | exact (set_same hP.1).symm | rfl)
theorem sp_readAct (hP : PadAt h t ss cn pl k r n) (hl : pl ≤ 800) : PSp xs m_Pad_readAct h t cn (rdA pl (sg ss cn pl) (sg ss cn (pl + 1)) (sg ss cn (pl + 1 + 1)) k) := by
  obtain ⟨p1, p2, p3, p4, p5, p6, p7⟩ := id hP
  have e9 := rd_11 (xs := xs) (pad_set (k' := k) (r' := -6) (n' := 0) hP p4 (Int.le_refl _) p6) hl
  rw [List.set_set] at e9
  refine en_Pad_readAct ?_
  refine r_aload_n cd_Pad_readAct_0 rfl ?_
  refine r_bipush cd_Pad_readAct_1 ?_
  refine r_putfield cd_Pad_readAct_3 hP.1 (Nat.le_of_ble_eq_true rfl) rfl ?_
  refine r_aload_n cd_Pad_readAct_6 rfl ?_
  refine r_iconst cd_Pad_readAct_7 ?_
  refine r_putfield cd_Pad_readAct_8 (gs_eq hP.1) (Nat.le_of_ble_eq_true rfl) rfl ?_
  (rw [List.set_set]; exact e9)
end C38
