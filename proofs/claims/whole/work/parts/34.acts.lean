-- acts: why one can not be, what it does
section C34
variable {xs : List Int} {h : MH} {t : Nat} {w : List Int}
def why (w : List Int) (k r n : Int) : Int :=
  if at_ w 18 = 10 ∨ at_ w 19 = 10 then 1
  else if k = 0 then (if at_ w (8 + r) = 1 then 3 else if 2 ≤ hcn w (sid r) (-1) then 4 else 0)
  else if k = 1 then (if at_ w (8 + r) = 1 then 0 else 3)
  else if k = 2 then (if at_ w (8 + r) ≠ 1 then 3 else if at_ w r - n < 0 then 5 else 0)
  else if k = 3 then (if at_ w (8 + r) ≠ 1 then 3 else if wid r < at_ w r + n then 5 else 0)
  else if k = 4 then (if at_ w 16 = -6 then 2 else if at_ w (8 + at_ w 16) ≠ 1 then 3 else if (0 ≤ n ∧ n < men (at_ w 16)) ∧ (n - at_ w 17 = 1 ∨ n - at_ w 17 = -1) then 0 else 6)
  else if k = 5 then (if at_ w 16 = -6 then 2 else if at_ w (8 + at_ w 16) ≠ 1 then 3 else if ovr w (at_ w 16) (at_ w 17) r = -1 then 6 else 0)
  else if k = 6 then (if at_ w 16 = -6 then 2 else if at_ w (8 + at_ w 16) ≠ 1 then 3 else 0)
  else if k = 7 then (if at_ w 16 ≠ -6 then 2 else if 0 ≤ n ∧ n < men r then 0 else 6)
  else if 999 ≤ at_ w 20 then 7 else 0
theorem why_0 {r n : Int} : why w 0 r n = if at_ w 18 = 10 ∨ at_ w 19 = 10 then 1 else if at_ w (8 + r) = 1 then 3 else if 2 ≤ hcn w (sid r) (-1) then 4 else 0 := rfl
theorem why_1 {r n : Int} : why w 1 r n = if at_ w 18 = 10 ∨ at_ w 19 = 10 then 1 else if at_ w (8 + r) = 1 then 0 else 3 := rfl
theorem why_2 {r n : Int} : why w 2 r n = if at_ w 18 = 10 ∨ at_ w 19 = 10 then 1 else if at_ w (8 + r) ≠ 1 then 3 else if at_ w r - n < 0 then 5 else 0 := rfl
theorem why_3 {r n : Int} : why w 3 r n = if at_ w 18 = 10 ∨ at_ w 19 = 10 then 1 else if at_ w (8 + r) ≠ 1 then 3 else if wid r < at_ w r + n then 5 else 0 := rfl
theorem why_4 {r n : Int} : why w 4 r n = if at_ w 18 = 10 ∨ at_ w 19 = 10 then 1 else if at_ w 16 = -6 then 2 else if at_ w (8 + at_ w 16) ≠ 1 then 3 else if (0 ≤ n ∧ n < men (at_ w 16)) ∧ (n - at_ w 17 = 1 ∨ n - at_ w 17 = -1) then 0 else 6 := rfl
theorem why_5 {r n : Int} : why w 5 r n = if at_ w 18 = 10 ∨ at_ w 19 = 10 then 1 else if at_ w 16 = -6 then 2 else if at_ w (8 + at_ w 16) ≠ 1 then 3 else if ovr w (at_ w 16) (at_ w 17) r = -1 then 6 else 0 := rfl
theorem why_6 {r n : Int} : why w 6 r n = if at_ w 18 = 10 ∨ at_ w 19 = 10 then 1 else if at_ w 16 = -6 then 2 else if at_ w (8 + at_ w 16) ≠ 1 then 3 else 0 := rfl
theorem why_7 {r n : Int} : why w 7 r n = if at_ w 18 = 10 ∨ at_ w 19 = 10 then 1 else if at_ w 16 ≠ -6 then 2 else if 0 ≤ n ∧ n < men r then 0 else 6 := rfl
theorem why_8 {r n : Int} : why w 8 r n = if at_ w 18 = 10 ∨ at_ w 19 = 10 then 1 else if 999 ≤ at_ w 20 then 7 else 0 := rfl
def ballE (w : List Int) (e : Int) : List Int := setw (setw w 16 (e / 10)) 17 (e % 10)
def shoE (w : List Int) (e : Int) : List Int := if e = 80 then setw (setw (setw w (18 + sid (at_ w 16)) (at_ w (18 + sid (at_ w 16)) + 1)) 16 (-6)) 17 (-6) else ballE w e
def prf (w : List Int) (k r n : Int) : List Int :=
  if k = 0 then setw w (8 + r) 1
  else if k = 1 then setw w (8 + r) 0
  else if k = 2 then setw w r (at_ w r - n)
  else if k = 3 then setw w r (at_ w r + n)
  else if k = 4 then setw (setw w 16 (at_ w 16)) 17 n
  else if k = 5 then ballE w (ovr w (at_ w 16) (at_ w 17) r)
  else if k = 6 then shoE w (shot w n)
  else if k = 7 then setw (setw w 16 r) 17 n
  else setw w 20 (at_ w 20 + 1)
theorem sp_sc0 (hT : TabAt h t w) : Sp xs m_Table_scoredBy [vR t, vI 0] h (some (vI (at_ w 18))) h := sp_scoredBy hT (Or.inl rfl)
theorem sp_sc1 (hT : TabAt h t w) : Sp xs m_Table_scoredBy [vR t, vI 1] h (some (vI (at_ w 19))) h := sp_scoredBy hT (Or.inr rfl)
def manE (e : Int) : Prop := 0 ≤ e ∧ e < 80 ∧ e % 10 < men (e / 10)
theorem manE_of {r m : Int} (h0 : 0 ≤ r) (h1 : r < 8) (m0 : 0 ≤ m) (m1 : m < men r) : manE (10 * r + m) := by
  have hm := men_bd h0 h1
  unfold manE
  rw [show (10 * r + m) % 10 = m by omega, show (10 * r + m) / 10 = r by omega]
  omega
theorem ovA_bd {w : List Int} {r to p sd e : Int} (he : manE e) : ∀ (k : Nat) (i : Int), manE (ovA w r to p sd e k i)
  | 0, i => by unfold ovA; exact he
  | k + 1, i => by
    have ih : manE (ovA w r to p sd e k (i + 1)) := ovA_bd he k (i + 1)
    unfold ovA
    split
    · exact he
    · split
      · next hq =>
        have := cov_bd w (p := p) hq.1.1 hq.1.2.1
        exact manE_of hq.1.1 hq.1.2.1 (by omega) (by omega)
      · exact ih
theorem ovr_bd {r m to : Int} (hw : WF w) (h0 : 0 ≤ r) (h1 : r < 8) (m0 : 0 ≤ m) (m1 : m < men r) (t0 : 0 ≤ to) (t1 : to < 8) : ovr w r m to = -1 ∨ (0 ≤ ovr w r m to ∧ ovr w r m to < 80 ∧ ovr w r m to % 10 < men (ovr w r m to / 10)) := by
  unfold ovr
  split
  · exact Or.inl rfl
  · split
    · exact Or.inl rfl
    · have hn := nea_bd w (p := pos w r m) t0 t1
      exact Or.inr (ovA_bd (manE_of t0 t1 hn.1 hn.2) 7 1)
theorem sp_isPlayed {k : Int} (hk : inR k) : Sp xs m_Table_isPlayed [vI k] h (some (vI (bp (k = 4 ∨ k = 5 ∨ k = 6)))) h := by
  refine en_Table_isPlayed ?_
  obtain ⟨k1, k2⟩ := hk
  refine r_iload_n cd_Table_isPlayed_0 rfl ?_
  refine r_iconst cd_Table_isPlayed_1 ?_
  refine r_icmp_eq cd_Table_isPlayed_2 ⟨by omega, by omega⟩ ⟨by decide, by decide⟩ (fun c_2 => ?_) (fun c_2 => ?_)
  · skip
    refine r_iconst cd_Table_isPlayed_16 ?_
    refine r_goto cd_Table_isPlayed_17 ?_
    exact r_zret cd_Table_isPlayed_21 rt_Table_isPlayed (by unfold bp; split <;> omega) (by rfl)
  · skip
    refine r_iload_n cd_Table_isPlayed_5 rfl ?_
    refine r_iconst cd_Table_isPlayed_6 ?_
    refine r_icmp_eq cd_Table_isPlayed_7 ⟨by omega, by omega⟩ ⟨by decide, by decide⟩ (fun c_7 => ?_) (fun c_7 => ?_)
    · skip
      refine r_iconst cd_Table_isPlayed_16 ?_
      refine r_goto cd_Table_isPlayed_17 ?_
      exact r_zret cd_Table_isPlayed_21 rt_Table_isPlayed (by unfold bp; split <;> omega) (by rfl)
    · skip
      refine r_iload_n cd_Table_isPlayed_10 rfl ?_
      refine r_bipush cd_Table_isPlayed_11 ?_
      refine r_icmp_ne cd_Table_isPlayed_13 ⟨by omega, by omega⟩ ⟨by decide, by decide⟩ (fun c_13 => ?_) (fun c_13 => ?_)
      · skip
        refine r_iconst cd_Table_isPlayed_20 ?_
        exact r_zret cd_Table_isPlayed_21 rt_Table_isPlayed (by unfold bp; split <;> omega) (by rfl)
      · skip
        refine r_iconst cd_Table_isPlayed_16 ?_
        refine r_goto cd_Table_isPlayed_17 ?_
        exact r_zret cd_Table_isPlayed_21 rt_Table_isPlayed (by unfold bp; split <;> omega) (by rfl)
theorem sp_isPlayed_t {k : Int} (hk : k = 4 ∨ k = 5 ∨ k = 6) : Sp xs m_Table_isPlayed [vI k] h (some (vI 1)) h := by
  have e9 := sp_isPlayed (xs := xs) (h := h) (k := k) ⟨by omega, by omega⟩
  rwa [bp_t hk] at e9
theorem sp_isPlayed_f {k : Int} (hk : k = 0 ∨ k = 1 ∨ k = 2 ∨ k = 3 ∨ k = 7 ∨ k = 8) : Sp xs m_Table_isPlayed [vI k] h (some (vI 0)) h := by
  have e9 := sp_isPlayed (xs := xs) (h := h) (k := k) ⟨by omega, by omega⟩
  rwa [bp_f (by omega)] at e9
theorem sp_wrong_0 {r : Int} (hT : TabAt h t w) (hw : WF w) (h0 : 0 ≤ r) (h1 : r < 8) : Sp xs m_Table_isHeldWrongly [vR t, vI 0, vI r] h (some (vI (bp (at_ w (8 + r) = 1)))) h := by
  refine en_Table_isHeldWrongly ?_
  refine r_iload_n cd_Table_isHeldWrongly_0 rfl ?_
  refine r_switch (t := 32) cd_Table_isHeldWrongly_1 ⟨by decide, by decide⟩ (by decide) ?_
  refine r_aload_n cd_Table_isHeldWrongly_32 rfl ?_
  refine r_iload_n cd_Table_isHeldWrongly_33 rfl ?_
  refine r_vv1 cd_Table_isHeldWrongly_34 rfl ck_Table_isHeldWrongly_Table_isHeld (Nat.le_of_ble_eq_true rfl) hT.1 rfl (sp_isHeld hT hw h0 h1) ?_
  exact r_zret cd_Table_isHeldWrongly_37 rt_Table_isHeldWrongly (by first | rfl | omega | (split <;> first | rfl | omega)) (by rfl)

theorem sp_wrong_1 {r : Int} (hT : TabAt h t w) (hw : WF w) (h0 : 0 ≤ r) (h1 : r < 8) : Sp xs m_Table_isHeldWrongly [vR t, vI 1, vI r] h (some (vI (bp (at_ w (8 + r) ≠ 1)))) h := by
  refine en_Table_isHeldWrongly ?_
  refine r_iload_n cd_Table_isHeldWrongly_0 rfl ?_
  refine r_switch (t := 38) cd_Table_isHeldWrongly_1 ⟨by decide, by decide⟩ (by decide) ?_
  refine r_aload_n cd_Table_isHeldWrongly_38 rfl ?_
  refine r_iload_n cd_Table_isHeldWrongly_39 rfl ?_
  refine r_vv1 cd_Table_isHeldWrongly_40 rfl ck_Table_isHeldWrongly_Table_isHeld (Nat.le_of_ble_eq_true rfl) hT.1 rfl (sp_isHeld hT hw h0 h1) ?_
  refine r_ifne_p cd_Table_isHeldWrongly_43 (fun c_43 => ?_) (fun c_43 => ?_)
  · skip
    refine r_iconst cd_Table_isHeldWrongly_50 ?_
    exact r_zret cd_Table_isHeldWrongly_51 rt_Table_isHeldWrongly (by unfold bp; split <;> omega) (by rfl)
  · skip
    refine r_iconst cd_Table_isHeldWrongly_46 ?_
    refine r_goto cd_Table_isHeldWrongly_47 ?_
    exact r_zret cd_Table_isHeldWrongly_51 rt_Table_isHeldWrongly (by unfold bp; split <;> omega) (by rfl)

theorem sp_wrong_2 {r : Int} (hT : TabAt h t w) (hw : WF w) (h0 : 0 ≤ r) (h1 : r < 8) : Sp xs m_Table_isHeldWrongly [vR t, vI 2, vI r] h (some (vI (bp (at_ w (8 + r) ≠ 1)))) h := by
  refine en_Table_isHeldWrongly ?_
  refine r_iload_n cd_Table_isHeldWrongly_0 rfl ?_
  refine r_switch (t := 38) cd_Table_isHeldWrongly_1 ⟨by decide, by decide⟩ (by decide) ?_
  refine r_aload_n cd_Table_isHeldWrongly_38 rfl ?_
  refine r_iload_n cd_Table_isHeldWrongly_39 rfl ?_
  refine r_vv1 cd_Table_isHeldWrongly_40 rfl ck_Table_isHeldWrongly_Table_isHeld (Nat.le_of_ble_eq_true rfl) hT.1 rfl (sp_isHeld hT hw h0 h1) ?_
  refine r_ifne_p cd_Table_isHeldWrongly_43 (fun c_43 => ?_) (fun c_43 => ?_)
  · skip
    refine r_iconst cd_Table_isHeldWrongly_50 ?_
    exact r_zret cd_Table_isHeldWrongly_51 rt_Table_isHeldWrongly (by unfold bp; split <;> omega) (by rfl)
  · skip
    refine r_iconst cd_Table_isHeldWrongly_46 ?_
    refine r_goto cd_Table_isHeldWrongly_47 ?_
    exact r_zret cd_Table_isHeldWrongly_51 rt_Table_isHeldWrongly (by unfold bp; split <;> omega) (by rfl)

theorem sp_wrong_3 {r : Int} (hT : TabAt h t w) (hw : WF w) (h0 : 0 ≤ r) (h1 : r < 8) : Sp xs m_Table_isHeldWrongly [vR t, vI 3, vI r] h (some (vI (bp (at_ w (8 + r) ≠ 1)))) h := by
  refine en_Table_isHeldWrongly ?_
  refine r_iload_n cd_Table_isHeldWrongly_0 rfl ?_
  refine r_switch (t := 38) cd_Table_isHeldWrongly_1 ⟨by decide, by decide⟩ (by decide) ?_
  refine r_aload_n cd_Table_isHeldWrongly_38 rfl ?_
  refine r_iload_n cd_Table_isHeldWrongly_39 rfl ?_
  refine r_vv1 cd_Table_isHeldWrongly_40 rfl ck_Table_isHeldWrongly_Table_isHeld (Nat.le_of_ble_eq_true rfl) hT.1 rfl (sp_isHeld hT hw h0 h1) ?_
  refine r_ifne_p cd_Table_isHeldWrongly_43 (fun c_43 => ?_) (fun c_43 => ?_)
  · skip
    refine r_iconst cd_Table_isHeldWrongly_50 ?_
    exact r_zret cd_Table_isHeldWrongly_51 rt_Table_isHeldWrongly (by unfold bp; split <;> omega) (by rfl)
  · skip
    refine r_iconst cd_Table_isHeldWrongly_46 ?_
    refine r_goto cd_Table_isHeldWrongly_47 ?_
    exact r_zret cd_Table_isHeldWrongly_51 rt_Table_isHeldWrongly (by unfold bp; split <;> omega) (by rfl)

theorem sp_wrong_4 {r : Int} (hT : TabAt h t w) (hw : WF w) (ha : at_ w 16 ≠ -6) : Sp xs m_Table_isHeldWrongly [vR t, vI 4, vI r] h (some (vI (bp (at_ w (8 + at_ w 16) ≠ 1)))) h := by
  obtain ⟨a1, a2, a3, a4⟩ := alive_bd hw ha
  refine en_Table_isHeldWrongly ?_
  refine r_iload_n cd_Table_isHeldWrongly_0 rfl ?_
  refine r_switch (t := 52) cd_Table_isHeldWrongly_1 ⟨by decide, by decide⟩ (by decide) ?_
  refine r_iload_n cd_Table_isHeldWrongly_52 rfl ?_
  refine r_cv1 cd_Table_isHeldWrongly_53 rfl ck_Table_isHeldWrongly_Table_isPlayed rfl (Nat.le_of_ble_eq_true rfl) (sp_isPlayed_t (by omega)) ?_
  refine r_if_eq cd_Table_isHeldWrongly_56 ⟨by decide, by decide⟩ (fun c_56 => absurd c_56 (by decide)) (fun _ => ?_)
  refine r_aload_n cd_Table_isHeldWrongly_59 rfl ?_
  refine r_aload_n cd_Table_isHeldWrongly_60 rfl ?_
  refine r_getfield cd_Table_isHeldWrongly_61 hT.1 rfl ?_
  refine r_vv1 cd_Table_isHeldWrongly_64 rfl ck_Table_isHeldWrongly_Table_isHeld (Nat.le_of_ble_eq_true rfl) hT.1 rfl (sp_isHeld hT hw a1 a2) ?_
  refine r_ifne_p cd_Table_isHeldWrongly_67 (fun c_67 => ?_) (fun c_67 => ?_)
  · skip
    refine r_iconst cd_Table_isHeldWrongly_74 ?_
    exact r_zret cd_Table_isHeldWrongly_75 rt_Table_isHeldWrongly (by unfold bp; split <;> omega) (by rfl)
  · skip
    refine r_iconst cd_Table_isHeldWrongly_70 ?_
    refine r_goto cd_Table_isHeldWrongly_71 ?_
    exact r_zret cd_Table_isHeldWrongly_75 rt_Table_isHeldWrongly (by unfold bp; split <;> omega) (by rfl)

theorem sp_wrong_5 {r : Int} (hT : TabAt h t w) (hw : WF w) (ha : at_ w 16 ≠ -6) : Sp xs m_Table_isHeldWrongly [vR t, vI 5, vI r] h (some (vI (bp (at_ w (8 + at_ w 16) ≠ 1)))) h := by
  obtain ⟨a1, a2, a3, a4⟩ := alive_bd hw ha
  refine en_Table_isHeldWrongly ?_
  refine r_iload_n cd_Table_isHeldWrongly_0 rfl ?_
  refine r_switch (t := 52) cd_Table_isHeldWrongly_1 ⟨by decide, by decide⟩ (by decide) ?_
  refine r_iload_n cd_Table_isHeldWrongly_52 rfl ?_
  refine r_cv1 cd_Table_isHeldWrongly_53 rfl ck_Table_isHeldWrongly_Table_isPlayed rfl (Nat.le_of_ble_eq_true rfl) (sp_isPlayed_t (by omega)) ?_
  refine r_if_eq cd_Table_isHeldWrongly_56 ⟨by decide, by decide⟩ (fun c_56 => absurd c_56 (by decide)) (fun _ => ?_)
  refine r_aload_n cd_Table_isHeldWrongly_59 rfl ?_
  refine r_aload_n cd_Table_isHeldWrongly_60 rfl ?_
  refine r_getfield cd_Table_isHeldWrongly_61 hT.1 rfl ?_
  refine r_vv1 cd_Table_isHeldWrongly_64 rfl ck_Table_isHeldWrongly_Table_isHeld (Nat.le_of_ble_eq_true rfl) hT.1 rfl (sp_isHeld hT hw a1 a2) ?_
  refine r_ifne_p cd_Table_isHeldWrongly_67 (fun c_67 => ?_) (fun c_67 => ?_)
  · skip
    refine r_iconst cd_Table_isHeldWrongly_74 ?_
    exact r_zret cd_Table_isHeldWrongly_75 rt_Table_isHeldWrongly (by unfold bp; split <;> omega) (by rfl)
  · skip
    refine r_iconst cd_Table_isHeldWrongly_70 ?_
    refine r_goto cd_Table_isHeldWrongly_71 ?_
    exact r_zret cd_Table_isHeldWrongly_75 rt_Table_isHeldWrongly (by unfold bp; split <;> omega) (by rfl)

theorem sp_wrong_6 {r : Int} (hT : TabAt h t w) (hw : WF w) (ha : at_ w 16 ≠ -6) : Sp xs m_Table_isHeldWrongly [vR t, vI 6, vI r] h (some (vI (bp (at_ w (8 + at_ w 16) ≠ 1)))) h := by
  obtain ⟨a1, a2, a3, a4⟩ := alive_bd hw ha
  refine en_Table_isHeldWrongly ?_
  refine r_iload_n cd_Table_isHeldWrongly_0 rfl ?_
  refine r_switch (t := 52) cd_Table_isHeldWrongly_1 ⟨by decide, by decide⟩ (by decide) ?_
  refine r_iload_n cd_Table_isHeldWrongly_52 rfl ?_
  refine r_cv1 cd_Table_isHeldWrongly_53 rfl ck_Table_isHeldWrongly_Table_isPlayed rfl (Nat.le_of_ble_eq_true rfl) (sp_isPlayed_t (by omega)) ?_
  refine r_if_eq cd_Table_isHeldWrongly_56 ⟨by decide, by decide⟩ (fun c_56 => absurd c_56 (by decide)) (fun _ => ?_)
  refine r_aload_n cd_Table_isHeldWrongly_59 rfl ?_
  refine r_aload_n cd_Table_isHeldWrongly_60 rfl ?_
  refine r_getfield cd_Table_isHeldWrongly_61 hT.1 rfl ?_
  refine r_vv1 cd_Table_isHeldWrongly_64 rfl ck_Table_isHeldWrongly_Table_isHeld (Nat.le_of_ble_eq_true rfl) hT.1 rfl (sp_isHeld hT hw a1 a2) ?_
  refine r_ifne_p cd_Table_isHeldWrongly_67 (fun c_67 => ?_) (fun c_67 => ?_)
  · skip
    refine r_iconst cd_Table_isHeldWrongly_74 ?_
    exact r_zret cd_Table_isHeldWrongly_75 rt_Table_isHeldWrongly (by unfold bp; split <;> omega) (by rfl)
  · skip
    refine r_iconst cd_Table_isHeldWrongly_70 ?_
    refine r_goto cd_Table_isHeldWrongly_71 ?_
    exact r_zret cd_Table_isHeldWrongly_75 rt_Table_isHeldWrongly (by unfold bp; split <;> omega) (by rfl)

theorem sp_wrong_7 {r : Int} : Sp xs m_Table_isHeldWrongly [vR t, vI 7, vI r] h (some (vI (bp False))) h := by
  refine en_Table_isHeldWrongly ?_
  refine r_iload_n cd_Table_isHeldWrongly_0 rfl ?_
  refine r_switch (t := 52) cd_Table_isHeldWrongly_1 ⟨by decide, by decide⟩ (by decide) ?_
  refine r_iload_n cd_Table_isHeldWrongly_52 rfl ?_
  refine r_cv1 cd_Table_isHeldWrongly_53 rfl ck_Table_isHeldWrongly_Table_isPlayed rfl (Nat.le_of_ble_eq_true rfl) (sp_isPlayed_f (by omega)) ?_
  refine r_if_eq cd_Table_isHeldWrongly_56 ⟨by decide, by decide⟩ (fun _ => ?_) (fun c_56 => absurd c_56 (by decide))
  refine r_iconst cd_Table_isHeldWrongly_74 ?_
  exact r_zret cd_Table_isHeldWrongly_75 rt_Table_isHeldWrongly (by rfl) (by rfl)

theorem sp_wrong_8 {r : Int} : Sp xs m_Table_isHeldWrongly [vR t, vI 8, vI r] h (some (vI (bp False))) h := by
  refine en_Table_isHeldWrongly ?_
  refine r_iload_n cd_Table_isHeldWrongly_0 rfl ?_
  refine r_switch (t := 52) cd_Table_isHeldWrongly_1 ⟨by decide, by decide⟩ (by decide) ?_
  refine r_iload_n cd_Table_isHeldWrongly_52 rfl ?_
  refine r_cv1 cd_Table_isHeldWrongly_53 rfl ck_Table_isHeldWrongly_Table_isPlayed rfl (Nat.le_of_ble_eq_true rfl) (sp_isPlayed_f (by omega)) ?_
  refine r_if_eq cd_Table_isHeldWrongly_56 ⟨by decide, by decide⟩ (fun _ => ?_) (fun c_56 => absurd c_56 (by decide))
  refine r_iconst cd_Table_isHeldWrongly_74 ?_
  exact r_zret cd_Table_isHeldWrongly_75 rt_Table_isHeldWrongly (by rfl) (by rfl)

theorem sp_isNextMan {n : Int} (hT : TabAt h t w) (hw : WF w) (ha : at_ w 16 ≠ -6) (n0 : -100 ≤ n) (n1 : n ≤ 100) : Sp xs m_Table_isNextMan [vR t, vI n] h (some (vI (bp ((0 ≤ n ∧ n < men (at_ w 16)) ∧ (n - at_ w 17 = 1 ∨ n - at_ w 17 = -1))))) h := by
  obtain ⟨a1, a2, a3, a4⟩ := alive_bd hw ha
  have hm := men_bd a1 a2
  have hz := zabs_bd (x := n - at_ w 17) (n := 200) (by omega) (by omega)
  refine en_Table_isNextMan ?_
  refine r_aload_n cd_Table_isNextMan_0 rfl ?_
  refine r_getfield cd_Table_isNextMan_1 hT.1 rfl ?_
  refine r_iload_n cd_Table_isNextMan_4 rfl ?_
  refine r_cv2 cd_Table_isNextMan_5 rfl ck_Table_isNextMan_Rods_isMan rfl (Nat.le_of_ble_eq_true rfl) (sp_Rods_isMan ⟨by omega, by omega⟩ ⟨by omega, by omega⟩) ?_
  refine r_ifeq_p cd_Table_isNextMan_8 (fun c_8 => ?_) (fun c_8 => ?_)
  · skip
    refine r_iconst cd_Table_isNextMan_28 ?_
    exact r_zret cd_Table_isNextMan_29 rt_Table_isNextMan (by (first | (unfold zabs at c_21) | skip); unfold bp; split <;> first | omega | (split at c_21 <;> omega)) (by rfl)
  · skip
    refine r_iload_n cd_Table_isNextMan_11 rfl ?_
    refine r_aload_n cd_Table_isNextMan_12 rfl ?_
    refine r_getfield cd_Table_isNextMan_13 hT.1 rfl ?_
    refine r_isub cd_Table_isNextMan_16 ?_
    refine r_cv1 cd_Table_isNextMan_17 rfl ck_Table_isNextMan_Math_abs rfl (Nat.le_of_ble_eq_true rfl) (sp_Math_abs ⟨by omega, by omega⟩) ?_
    refine r_iconst cd_Table_isNextMan_20 ?_
    refine r_icmp_ne cd_Table_isNextMan_21 ⟨by omega, by omega⟩ ⟨by decide, by decide⟩ (fun c_21 => ?_) (fun c_21 => ?_)
    · skip
      refine r_iconst cd_Table_isNextMan_28 ?_
      exact r_zret cd_Table_isNextMan_29 rt_Table_isNextMan (by (first | (unfold zabs at c_21) | skip); unfold bp; split <;> first | omega | (split at c_21 <;> omega)) (by rfl)
    · skip
      refine r_iconst cd_Table_isNextMan_24 ?_
      refine r_goto cd_Table_isNextMan_25 ?_
      exact r_zret cd_Table_isNextMan_29 rt_Table_isNextMan (by (first | (unfold zabs at c_21) | skip); unfold bp; split <;> first | omega | (split at c_21 <;> omega)) (by rfl)

theorem sp_why_0 {r n : Int} (hT : TabAt h t w) (hw : WF w) (h0 : 0 ≤ r) (h1 : r < 8) (n0 : -100 ≤ n) (n1 : n ≤ 100) : Sp xs m_Table_whyNot [vR t, vI 0, vI r, vI n] h (some (vI (why w 0 r n))) h := by
  have g1 := hw.2.2.2.2.1
  have g2 := hw.2.2.2.2.2.1
  have g3 := hw.2.2.2.2.2.2.1
  refine en_Table_whyNot ?_
  have s0 := hw.2.1 r h0 h1
  have s1 := wid_bd h0 h1
  have s2 := sid_bd h0 h1
  have s3 := hcA_bd hw (sid r) (-1) 8 0 (by omega) (by omega)
  refine r_aload_n cd_Table_whyNot_0 rfl ?_
  refine r_iconst cd_Table_whyNot_1 ?_
  refine r_vv1 cd_Table_whyNot_2 rfl ck_Table_whyNot_Table_scoredBy (Nat.le_of_ble_eq_true rfl) hT.1 rfl (sp_sc0 hT) ?_
  refine r_bipush cd_Table_whyNot_5 ?_
  refine r_icmp_ge cd_Table_whyNot_7 ⟨by omega, by omega⟩ ⟨by decide, by decide⟩ (fun c_7 => ?_) (fun c_7 => ?_)
  · skip
    refine r_iconst cd_Table_whyNot_20 ?_
    exact r_iret cd_Table_whyNot_21 rt_Table_whyNot (by (rw [why_0]; (repeat' split) <;> first | rfl | omega | (exfalso; omega) | (exact absurd c_60 id))) (by rfl)
  · skip
    refine r_aload_n cd_Table_whyNot_10 rfl ?_
    refine r_iconst cd_Table_whyNot_11 ?_
    refine r_vv1 cd_Table_whyNot_12 rfl ck_Table_whyNot_Table_scoredBy (Nat.le_of_ble_eq_true rfl) hT.1 rfl (sp_sc1 hT) ?_
    refine r_bipush cd_Table_whyNot_15 ?_
    refine r_icmp_lt cd_Table_whyNot_17 ⟨by omega, by omega⟩ ⟨by decide, by decide⟩ (fun c_17 => ?_) (fun c_17 => ?_)
    · skip
      refine r_iload_n cd_Table_whyNot_22 rfl ?_
      refine r_cv1 cd_Table_whyNot_23 rfl ck_Table_whyNot_Table_isPlayed rfl (Nat.le_of_ble_eq_true rfl) (sp_isPlayed_f (by omega)) ?_
      refine r_if_eq cd_Table_whyNot_26 ⟨by decide, by decide⟩ (fun _ => ?_) (fun c_26 => absurd c_26 (by decide))
      refine r_iload_n cd_Table_whyNot_39 rfl ?_
      refine r_bipush cd_Table_whyNot_40 ?_
      refine r_icmp_ne cd_Table_whyNot_42 ⟨by decide, by decide⟩ ⟨by decide, by decide⟩ (fun _ => ?_) (fun c_42 => absurd c_42 (by decide))
      refine r_aload_n cd_Table_whyNot_54 rfl ?_
      refine r_iload_n cd_Table_whyNot_55 rfl ?_
      refine r_iload_n cd_Table_whyNot_56 rfl ?_
      refine r_vv2 cd_Table_whyNot_57 rfl ck_Table_whyNot_Table_isHeldWrongly (Nat.le_of_ble_eq_true rfl) hT.1 rfl (sp_wrong_0 hT hw h0 h1) ?_
      refine r_ifeq_p cd_Table_whyNot_60 (fun c_60 => ?_) (fun c_60 => ?_)
      · skip
        refine r_iload_n cd_Table_whyNot_65 rfl ?_
        refine r_if_ne cd_Table_whyNot_66 ⟨by decide, by decide⟩ (fun c_66 => absurd c_66 (by decide)) (fun _ => ?_)
        refine r_aload_n cd_Table_whyNot_69 rfl ?_
        refine r_iload_n cd_Table_whyNot_70 rfl ?_
        refine r_cv1 cd_Table_whyNot_71 rfl ck_Table_whyNot_Rods_sideOf rfl (Nat.le_of_ble_eq_true rfl) (sp_sid h0 h1) ?_
        refine r_vv1 cd_Table_whyNot_74 rfl ck_Table_whyNot_Table_heldBy (Nat.le_of_ble_eq_true rfl) hT.1 rfl (sp_heldBy hT hw ⟨by omega, by omega⟩) ?_
        refine r_iconst cd_Table_whyNot_77 ?_
        refine r_icmp_lt cd_Table_whyNot_78 ⟨by unfold hcn; omega, by unfold hcn; omega⟩ ⟨by decide, by decide⟩ (fun c_78 => ?_) (fun c_78 => ?_)
        · skip
          refine r_iload_n cd_Table_whyNot_83 rfl ?_
          refine r_iconst cd_Table_whyNot_84 ?_
          refine r_icmp_ne cd_Table_whyNot_85 ⟨by decide, by decide⟩ ⟨by decide, by decide⟩ (fun _ => ?_) (fun c_85 => absurd c_85 (by decide))
          refine r_iload_n cd_Table_whyNot_100 rfl ?_
          refine r_iconst cd_Table_whyNot_101 ?_
          refine r_icmp_ne cd_Table_whyNot_102 ⟨by decide, by decide⟩ ⟨by decide, by decide⟩ (fun _ => ?_) (fun c_102 => absurd c_102 (by decide))
          refine r_iload_n cd_Table_whyNot_121 rfl ?_
          refine r_bipush cd_Table_whyNot_122 ?_
          refine r_icmp_ne cd_Table_whyNot_124 ⟨by decide, by decide⟩ ⟨by decide, by decide⟩ (fun _ => ?_) (fun c_124 => absurd c_124 (by decide))
          refine r_iload_n cd_Table_whyNot_138 rfl ?_
          refine r_iconst cd_Table_whyNot_139 ?_
          refine r_icmp_ne cd_Table_whyNot_140 ⟨by decide, by decide⟩ ⟨by decide, by decide⟩ (fun _ => ?_) (fun c_140 => absurd c_140 (by decide))
          refine r_iload_n cd_Table_whyNot_154 rfl ?_
          refine r_iconst cd_Table_whyNot_155 ?_
          refine r_icmp_ne cd_Table_whyNot_156 ⟨by decide, by decide⟩ ⟨by decide, by decide⟩ (fun _ => ?_) (fun c_156 => absurd c_156 (by decide))
          refine r_iload_n cd_Table_whyNot_179 rfl ?_
          refine r_bipush cd_Table_whyNot_180 ?_
          refine r_icmp_ne cd_Table_whyNot_182 ⟨by decide, by decide⟩ ⟨by decide, by decide⟩ (fun _ => ?_) (fun c_182 => absurd c_182 (by decide))
          refine r_iconst cd_Table_whyNot_198 ?_
          exact r_iret cd_Table_whyNot_199 rt_Table_whyNot (by (rw [why_0]; (repeat' split) <;> first | rfl | omega | (exfalso; omega) | (exact absurd c_60 id))) (by rfl)
        · skip
          refine r_iconst cd_Table_whyNot_81 ?_
          exact r_iret cd_Table_whyNot_82 rt_Table_whyNot (by (rw [why_0]; (repeat' split) <;> first | rfl | omega | (exfalso; omega) | (exact absurd c_60 id))) (by rfl)
      · skip
        refine r_iconst cd_Table_whyNot_63 ?_
        exact r_iret cd_Table_whyNot_64 rt_Table_whyNot (by (rw [why_0]; (repeat' split) <;> first | rfl | omega | (exfalso; omega) | (exact absurd c_60 id))) (by rfl)
    · skip
      refine r_iconst cd_Table_whyNot_20 ?_
      exact r_iret cd_Table_whyNot_21 rt_Table_whyNot (by (rw [why_0]; (repeat' split) <;> first | rfl | omega | (exfalso; omega) | (exact absurd c_60 id))) (by rfl)

theorem sp_why_1 {r n : Int} (hT : TabAt h t w) (hw : WF w) (h0 : 0 ≤ r) (h1 : r < 8) (n0 : -100 ≤ n) (n1 : n ≤ 100) : Sp xs m_Table_whyNot [vR t, vI 1, vI r, vI n] h (some (vI (why w 1 r n))) h := by
  have g1 := hw.2.2.2.2.1
  have g2 := hw.2.2.2.2.2.1
  have g3 := hw.2.2.2.2.2.2.1
  refine en_Table_whyNot ?_
  refine r_aload_n cd_Table_whyNot_0 rfl ?_
  refine r_iconst cd_Table_whyNot_1 ?_
  refine r_vv1 cd_Table_whyNot_2 rfl ck_Table_whyNot_Table_scoredBy (Nat.le_of_ble_eq_true rfl) hT.1 rfl (sp_sc0 hT) ?_
  refine r_bipush cd_Table_whyNot_5 ?_
  refine r_icmp_ge cd_Table_whyNot_7 ⟨by omega, by omega⟩ ⟨by decide, by decide⟩ (fun c_7 => ?_) (fun c_7 => ?_)
  · skip
    refine r_iconst cd_Table_whyNot_20 ?_
    exact r_iret cd_Table_whyNot_21 rt_Table_whyNot (by (rw [why_1]; (repeat' split) <;> first | rfl | omega | (exfalso; omega) | (exact absurd c_60 id))) (by rfl)
  · skip
    refine r_aload_n cd_Table_whyNot_10 rfl ?_
    refine r_iconst cd_Table_whyNot_11 ?_
    refine r_vv1 cd_Table_whyNot_12 rfl ck_Table_whyNot_Table_scoredBy (Nat.le_of_ble_eq_true rfl) hT.1 rfl (sp_sc1 hT) ?_
    refine r_bipush cd_Table_whyNot_15 ?_
    refine r_icmp_lt cd_Table_whyNot_17 ⟨by omega, by omega⟩ ⟨by decide, by decide⟩ (fun c_17 => ?_) (fun c_17 => ?_)
    · skip
      refine r_iload_n cd_Table_whyNot_22 rfl ?_
      refine r_cv1 cd_Table_whyNot_23 rfl ck_Table_whyNot_Table_isPlayed rfl (Nat.le_of_ble_eq_true rfl) (sp_isPlayed_f (by omega)) ?_
      refine r_if_eq cd_Table_whyNot_26 ⟨by decide, by decide⟩ (fun _ => ?_) (fun c_26 => absurd c_26 (by decide))
      refine r_iload_n cd_Table_whyNot_39 rfl ?_
      refine r_bipush cd_Table_whyNot_40 ?_
      refine r_icmp_ne cd_Table_whyNot_42 ⟨by decide, by decide⟩ ⟨by decide, by decide⟩ (fun _ => ?_) (fun c_42 => absurd c_42 (by decide))
      refine r_aload_n cd_Table_whyNot_54 rfl ?_
      refine r_iload_n cd_Table_whyNot_55 rfl ?_
      refine r_iload_n cd_Table_whyNot_56 rfl ?_
      refine r_vv2 cd_Table_whyNot_57 rfl ck_Table_whyNot_Table_isHeldWrongly (Nat.le_of_ble_eq_true rfl) hT.1 rfl (sp_wrong_1 hT hw h0 h1) ?_
      refine r_ifeq_p cd_Table_whyNot_60 (fun c_60 => ?_) (fun c_60 => ?_)
      · skip
        refine r_iload_n cd_Table_whyNot_65 rfl ?_
        refine r_if_ne cd_Table_whyNot_66 ⟨by decide, by decide⟩ (fun _ => ?_) (fun c_66 => absurd c_66 (by decide))
        refine r_iload_n cd_Table_whyNot_83 rfl ?_
        refine r_iconst cd_Table_whyNot_84 ?_
        refine r_icmp_ne cd_Table_whyNot_85 ⟨by decide, by decide⟩ ⟨by decide, by decide⟩ (fun _ => ?_) (fun c_85 => absurd c_85 (by decide))
        refine r_iload_n cd_Table_whyNot_100 rfl ?_
        refine r_iconst cd_Table_whyNot_101 ?_
        refine r_icmp_ne cd_Table_whyNot_102 ⟨by decide, by decide⟩ ⟨by decide, by decide⟩ (fun _ => ?_) (fun c_102 => absurd c_102 (by decide))
        refine r_iload_n cd_Table_whyNot_121 rfl ?_
        refine r_bipush cd_Table_whyNot_122 ?_
        refine r_icmp_ne cd_Table_whyNot_124 ⟨by decide, by decide⟩ ⟨by decide, by decide⟩ (fun _ => ?_) (fun c_124 => absurd c_124 (by decide))
        refine r_iload_n cd_Table_whyNot_138 rfl ?_
        refine r_iconst cd_Table_whyNot_139 ?_
        refine r_icmp_ne cd_Table_whyNot_140 ⟨by decide, by decide⟩ ⟨by decide, by decide⟩ (fun _ => ?_) (fun c_140 => absurd c_140 (by decide))
        refine r_iload_n cd_Table_whyNot_154 rfl ?_
        refine r_iconst cd_Table_whyNot_155 ?_
        refine r_icmp_ne cd_Table_whyNot_156 ⟨by decide, by decide⟩ ⟨by decide, by decide⟩ (fun _ => ?_) (fun c_156 => absurd c_156 (by decide))
        refine r_iload_n cd_Table_whyNot_179 rfl ?_
        refine r_bipush cd_Table_whyNot_180 ?_
        refine r_icmp_ne cd_Table_whyNot_182 ⟨by decide, by decide⟩ ⟨by decide, by decide⟩ (fun _ => ?_) (fun c_182 => absurd c_182 (by decide))
        refine r_iconst cd_Table_whyNot_198 ?_
        exact r_iret cd_Table_whyNot_199 rt_Table_whyNot (by (rw [why_1]; (repeat' split) <;> first | rfl | omega | (exfalso; omega) | (exact absurd c_60 id))) (by rfl)
      · skip
        refine r_iconst cd_Table_whyNot_63 ?_
        exact r_iret cd_Table_whyNot_64 rt_Table_whyNot (by (rw [why_1]; (repeat' split) <;> first | rfl | omega | (exfalso; omega) | (exact absurd c_60 id))) (by rfl)
    · skip
      refine r_iconst cd_Table_whyNot_20 ?_
      exact r_iret cd_Table_whyNot_21 rt_Table_whyNot (by (rw [why_1]; (repeat' split) <;> first | rfl | omega | (exfalso; omega) | (exact absurd c_60 id))) (by rfl)

theorem sp_why_2 {r n : Int} (hT : TabAt h t w) (hw : WF w) (h0 : 0 ≤ r) (h1 : r < 8) (n0 : -100 ≤ n) (n1 : n ≤ 100) : Sp xs m_Table_whyNot [vR t, vI 2, vI r, vI n] h (some (vI (why w 2 r n))) h := by
  have g1 := hw.2.2.2.2.1
  have g2 := hw.2.2.2.2.2.1
  have g3 := hw.2.2.2.2.2.2.1
  refine en_Table_whyNot ?_
  have s0 := hw.2.1 r h0 h1
  have s1 := wid_bd h0 h1
  have s2 := sid_bd h0 h1
  have s3 := hcA_bd hw (sid r) (-1) 8 0 (by omega) (by omega)
  refine r_aload_n cd_Table_whyNot_0 rfl ?_
  refine r_iconst cd_Table_whyNot_1 ?_
  refine r_vv1 cd_Table_whyNot_2 rfl ck_Table_whyNot_Table_scoredBy (Nat.le_of_ble_eq_true rfl) hT.1 rfl (sp_sc0 hT) ?_
  refine r_bipush cd_Table_whyNot_5 ?_
  refine r_icmp_ge cd_Table_whyNot_7 ⟨by omega, by omega⟩ ⟨by decide, by decide⟩ (fun c_7 => ?_) (fun c_7 => ?_)
  · skip
    refine r_iconst cd_Table_whyNot_20 ?_
    exact r_iret cd_Table_whyNot_21 rt_Table_whyNot (by (rw [why_2]; (repeat' split) <;> first | rfl | omega | (exfalso; omega) | (exact absurd c_60 id))) (by rfl)
  · skip
    refine r_aload_n cd_Table_whyNot_10 rfl ?_
    refine r_iconst cd_Table_whyNot_11 ?_
    refine r_vv1 cd_Table_whyNot_12 rfl ck_Table_whyNot_Table_scoredBy (Nat.le_of_ble_eq_true rfl) hT.1 rfl (sp_sc1 hT) ?_
    refine r_bipush cd_Table_whyNot_15 ?_
    refine r_icmp_lt cd_Table_whyNot_17 ⟨by omega, by omega⟩ ⟨by decide, by decide⟩ (fun c_17 => ?_) (fun c_17 => ?_)
    · skip
      refine r_iload_n cd_Table_whyNot_22 rfl ?_
      refine r_cv1 cd_Table_whyNot_23 rfl ck_Table_whyNot_Table_isPlayed rfl (Nat.le_of_ble_eq_true rfl) (sp_isPlayed_f (by omega)) ?_
      refine r_if_eq cd_Table_whyNot_26 ⟨by decide, by decide⟩ (fun _ => ?_) (fun c_26 => absurd c_26 (by decide))
      refine r_iload_n cd_Table_whyNot_39 rfl ?_
      refine r_bipush cd_Table_whyNot_40 ?_
      refine r_icmp_ne cd_Table_whyNot_42 ⟨by decide, by decide⟩ ⟨by decide, by decide⟩ (fun _ => ?_) (fun c_42 => absurd c_42 (by decide))
      refine r_aload_n cd_Table_whyNot_54 rfl ?_
      refine r_iload_n cd_Table_whyNot_55 rfl ?_
      refine r_iload_n cd_Table_whyNot_56 rfl ?_
      refine r_vv2 cd_Table_whyNot_57 rfl ck_Table_whyNot_Table_isHeldWrongly (Nat.le_of_ble_eq_true rfl) hT.1 rfl (sp_wrong_2 hT hw h0 h1) ?_
      refine r_ifeq_p cd_Table_whyNot_60 (fun c_60 => ?_) (fun c_60 => ?_)
      · skip
        refine r_iload_n cd_Table_whyNot_65 rfl ?_
        refine r_if_ne cd_Table_whyNot_66 ⟨by decide, by decide⟩ (fun _ => ?_) (fun c_66 => absurd c_66 (by decide))
        refine r_iload_n cd_Table_whyNot_83 rfl ?_
        refine r_iconst cd_Table_whyNot_84 ?_
        refine r_icmp_ne cd_Table_whyNot_85 ⟨by decide, by decide⟩ ⟨by decide, by decide⟩ (fun c_85 => absurd c_85 (by decide)) (fun _ => ?_)
        refine r_aload_n cd_Table_whyNot_88 rfl ?_
        refine r_iload_n cd_Table_whyNot_89 rfl ?_
        refine r_vv1 cd_Table_whyNot_90 rfl ck_Table_whyNot_Table_slideOf (Nat.le_of_ble_eq_true rfl) hT.1 rfl (sp_slideOf hT hw h0 h1) ?_
        refine r_iload_n cd_Table_whyNot_93 rfl ?_
        refine r_isub cd_Table_whyNot_94 ?_
        refine r_if_ge cd_Table_whyNot_95 ⟨by omega, by omega⟩ (fun c_95 => ?_) (fun c_95 => ?_)
        · skip
          refine r_iload_n cd_Table_whyNot_100 rfl ?_
          refine r_iconst cd_Table_whyNot_101 ?_
          refine r_icmp_ne cd_Table_whyNot_102 ⟨by decide, by decide⟩ ⟨by decide, by decide⟩ (fun _ => ?_) (fun c_102 => absurd c_102 (by decide))
          refine r_iload_n cd_Table_whyNot_121 rfl ?_
          refine r_bipush cd_Table_whyNot_122 ?_
          refine r_icmp_ne cd_Table_whyNot_124 ⟨by decide, by decide⟩ ⟨by decide, by decide⟩ (fun _ => ?_) (fun c_124 => absurd c_124 (by decide))
          refine r_iload_n cd_Table_whyNot_138 rfl ?_
          refine r_iconst cd_Table_whyNot_139 ?_
          refine r_icmp_ne cd_Table_whyNot_140 ⟨by decide, by decide⟩ ⟨by decide, by decide⟩ (fun _ => ?_) (fun c_140 => absurd c_140 (by decide))
          refine r_iload_n cd_Table_whyNot_154 rfl ?_
          refine r_iconst cd_Table_whyNot_155 ?_
          refine r_icmp_ne cd_Table_whyNot_156 ⟨by decide, by decide⟩ ⟨by decide, by decide⟩ (fun _ => ?_) (fun c_156 => absurd c_156 (by decide))
          refine r_iload_n cd_Table_whyNot_179 rfl ?_
          refine r_bipush cd_Table_whyNot_180 ?_
          refine r_icmp_ne cd_Table_whyNot_182 ⟨by decide, by decide⟩ ⟨by decide, by decide⟩ (fun _ => ?_) (fun c_182 => absurd c_182 (by decide))
          refine r_iconst cd_Table_whyNot_198 ?_
          exact r_iret cd_Table_whyNot_199 rt_Table_whyNot (by (rw [why_2]; (repeat' split) <;> first | rfl | omega | (exfalso; omega) | (exact absurd c_60 id))) (by rfl)
        · skip
          refine r_iconst cd_Table_whyNot_98 ?_
          exact r_iret cd_Table_whyNot_99 rt_Table_whyNot (by (rw [why_2]; (repeat' split) <;> first | rfl | omega | (exfalso; omega) | (exact absurd c_60 id))) (by rfl)
      · skip
        refine r_iconst cd_Table_whyNot_63 ?_
        exact r_iret cd_Table_whyNot_64 rt_Table_whyNot (by (rw [why_2]; (repeat' split) <;> first | rfl | omega | (exfalso; omega) | (exact absurd c_60 id))) (by rfl)
    · skip
      refine r_iconst cd_Table_whyNot_20 ?_
      exact r_iret cd_Table_whyNot_21 rt_Table_whyNot (by (rw [why_2]; (repeat' split) <;> first | rfl | omega | (exfalso; omega) | (exact absurd c_60 id))) (by rfl)

theorem sp_why_3 {r n : Int} (hT : TabAt h t w) (hw : WF w) (h0 : 0 ≤ r) (h1 : r < 8) (n0 : -100 ≤ n) (n1 : n ≤ 100) : Sp xs m_Table_whyNot [vR t, vI 3, vI r, vI n] h (some (vI (why w 3 r n))) h := by
  have g1 := hw.2.2.2.2.1
  have g2 := hw.2.2.2.2.2.1
  have g3 := hw.2.2.2.2.2.2.1
  refine en_Table_whyNot ?_
  have s0 := hw.2.1 r h0 h1
  have s1 := wid_bd h0 h1
  have s2 := sid_bd h0 h1
  have s3 := hcA_bd hw (sid r) (-1) 8 0 (by omega) (by omega)
  refine r_aload_n cd_Table_whyNot_0 rfl ?_
  refine r_iconst cd_Table_whyNot_1 ?_
  refine r_vv1 cd_Table_whyNot_2 rfl ck_Table_whyNot_Table_scoredBy (Nat.le_of_ble_eq_true rfl) hT.1 rfl (sp_sc0 hT) ?_
  refine r_bipush cd_Table_whyNot_5 ?_
  refine r_icmp_ge cd_Table_whyNot_7 ⟨by omega, by omega⟩ ⟨by decide, by decide⟩ (fun c_7 => ?_) (fun c_7 => ?_)
  · skip
    refine r_iconst cd_Table_whyNot_20 ?_
    exact r_iret cd_Table_whyNot_21 rt_Table_whyNot (by (rw [why_3]; (repeat' split) <;> first | rfl | omega | (exfalso; omega) | (exact absurd c_60 id))) (by rfl)
  · skip
    refine r_aload_n cd_Table_whyNot_10 rfl ?_
    refine r_iconst cd_Table_whyNot_11 ?_
    refine r_vv1 cd_Table_whyNot_12 rfl ck_Table_whyNot_Table_scoredBy (Nat.le_of_ble_eq_true rfl) hT.1 rfl (sp_sc1 hT) ?_
    refine r_bipush cd_Table_whyNot_15 ?_
    refine r_icmp_lt cd_Table_whyNot_17 ⟨by omega, by omega⟩ ⟨by decide, by decide⟩ (fun c_17 => ?_) (fun c_17 => ?_)
    · skip
      refine r_iload_n cd_Table_whyNot_22 rfl ?_
      refine r_cv1 cd_Table_whyNot_23 rfl ck_Table_whyNot_Table_isPlayed rfl (Nat.le_of_ble_eq_true rfl) (sp_isPlayed_f (by omega)) ?_
      refine r_if_eq cd_Table_whyNot_26 ⟨by decide, by decide⟩ (fun _ => ?_) (fun c_26 => absurd c_26 (by decide))
      refine r_iload_n cd_Table_whyNot_39 rfl ?_
      refine r_bipush cd_Table_whyNot_40 ?_
      refine r_icmp_ne cd_Table_whyNot_42 ⟨by decide, by decide⟩ ⟨by decide, by decide⟩ (fun _ => ?_) (fun c_42 => absurd c_42 (by decide))
      refine r_aload_n cd_Table_whyNot_54 rfl ?_
      refine r_iload_n cd_Table_whyNot_55 rfl ?_
      refine r_iload_n cd_Table_whyNot_56 rfl ?_
      refine r_vv2 cd_Table_whyNot_57 rfl ck_Table_whyNot_Table_isHeldWrongly (Nat.le_of_ble_eq_true rfl) hT.1 rfl (sp_wrong_3 hT hw h0 h1) ?_
      refine r_ifeq_p cd_Table_whyNot_60 (fun c_60 => ?_) (fun c_60 => ?_)
      · skip
        refine r_iload_n cd_Table_whyNot_65 rfl ?_
        refine r_if_ne cd_Table_whyNot_66 ⟨by decide, by decide⟩ (fun _ => ?_) (fun c_66 => absurd c_66 (by decide))
        refine r_iload_n cd_Table_whyNot_83 rfl ?_
        refine r_iconst cd_Table_whyNot_84 ?_
        refine r_icmp_ne cd_Table_whyNot_85 ⟨by decide, by decide⟩ ⟨by decide, by decide⟩ (fun _ => ?_) (fun c_85 => absurd c_85 (by decide))
        refine r_iload_n cd_Table_whyNot_100 rfl ?_
        refine r_iconst cd_Table_whyNot_101 ?_
        refine r_icmp_ne cd_Table_whyNot_102 ⟨by decide, by decide⟩ ⟨by decide, by decide⟩ (fun c_102 => absurd c_102 (by decide)) (fun _ => ?_)
        refine r_aload_n cd_Table_whyNot_105 rfl ?_
        refine r_iload_n cd_Table_whyNot_106 rfl ?_
        refine r_vv1 cd_Table_whyNot_107 rfl ck_Table_whyNot_Table_slideOf (Nat.le_of_ble_eq_true rfl) hT.1 rfl (sp_slideOf hT hw h0 h1) ?_
        refine r_iload_n cd_Table_whyNot_110 rfl ?_
        refine r_iadd cd_Table_whyNot_111 ?_
        refine r_iload_n cd_Table_whyNot_112 rfl ?_
        refine r_cv1 cd_Table_whyNot_113 rfl ck_Table_whyNot_Rods_lastSlide rfl (Nat.le_of_ble_eq_true rfl) (sp_Rods_lastSlide h0 h1) ?_
        refine r_icmp_le cd_Table_whyNot_116 ⟨by omega, by omega⟩ ⟨by omega, by omega⟩ (fun c_116 => ?_) (fun c_116 => ?_)
        · skip
          refine r_iload_n cd_Table_whyNot_121 rfl ?_
          refine r_bipush cd_Table_whyNot_122 ?_
          refine r_icmp_ne cd_Table_whyNot_124 ⟨by decide, by decide⟩ ⟨by decide, by decide⟩ (fun _ => ?_) (fun c_124 => absurd c_124 (by decide))
          refine r_iload_n cd_Table_whyNot_138 rfl ?_
          refine r_iconst cd_Table_whyNot_139 ?_
          refine r_icmp_ne cd_Table_whyNot_140 ⟨by decide, by decide⟩ ⟨by decide, by decide⟩ (fun _ => ?_) (fun c_140 => absurd c_140 (by decide))
          refine r_iload_n cd_Table_whyNot_154 rfl ?_
          refine r_iconst cd_Table_whyNot_155 ?_
          refine r_icmp_ne cd_Table_whyNot_156 ⟨by decide, by decide⟩ ⟨by decide, by decide⟩ (fun _ => ?_) (fun c_156 => absurd c_156 (by decide))
          refine r_iload_n cd_Table_whyNot_179 rfl ?_
          refine r_bipush cd_Table_whyNot_180 ?_
          refine r_icmp_ne cd_Table_whyNot_182 ⟨by decide, by decide⟩ ⟨by decide, by decide⟩ (fun _ => ?_) (fun c_182 => absurd c_182 (by decide))
          refine r_iconst cd_Table_whyNot_198 ?_
          exact r_iret cd_Table_whyNot_199 rt_Table_whyNot (by (rw [why_3]; (repeat' split) <;> first | rfl | omega | (exfalso; omega) | (exact absurd c_60 id))) (by rfl)
        · skip
          refine r_iconst cd_Table_whyNot_119 ?_
          exact r_iret cd_Table_whyNot_120 rt_Table_whyNot (by (rw [why_3]; (repeat' split) <;> first | rfl | omega | (exfalso; omega) | (exact absurd c_60 id))) (by rfl)
      · skip
        refine r_iconst cd_Table_whyNot_63 ?_
        exact r_iret cd_Table_whyNot_64 rt_Table_whyNot (by (rw [why_3]; (repeat' split) <;> first | rfl | omega | (exfalso; omega) | (exact absurd c_60 id))) (by rfl)
    · skip
      refine r_iconst cd_Table_whyNot_20 ?_
      exact r_iret cd_Table_whyNot_21 rt_Table_whyNot (by (rw [why_3]; (repeat' split) <;> first | rfl | omega | (exfalso; omega) | (exact absurd c_60 id))) (by rfl)

theorem sp_why_4 {r n : Int} (hT : TabAt h t w) (hw : WF w) (n0 : -100 ≤ n) (n1 : n ≤ 100) : Sp xs m_Table_whyNot [vR t, vI 4, vI r, vI n] h (some (vI (why w 4 r n))) h := by
  have g1 := hw.2.2.2.2.1
  have g2 := hw.2.2.2.2.2.1
  have g3 := hw.2.2.2.2.2.2.1
  refine en_Table_whyNot ?_
  refine r_aload_n cd_Table_whyNot_0 rfl ?_
  refine r_iconst cd_Table_whyNot_1 ?_
  refine r_vv1 cd_Table_whyNot_2 rfl ck_Table_whyNot_Table_scoredBy (Nat.le_of_ble_eq_true rfl) hT.1 rfl (sp_sc0 hT) ?_
  refine r_bipush cd_Table_whyNot_5 ?_
  refine r_icmp_ge cd_Table_whyNot_7 ⟨by omega, by omega⟩ ⟨by decide, by decide⟩ (fun c_7 => ?_) (fun c_7 => ?_)
  · skip
    refine r_iconst cd_Table_whyNot_20 ?_
    exact r_iret cd_Table_whyNot_21 rt_Table_whyNot (by (rw [why_4]; (repeat' split) <;> first | rfl | omega | (exfalso; omega) | (exact absurd c_60 id))) (by rfl)
  · skip
    refine r_aload_n cd_Table_whyNot_10 rfl ?_
    refine r_iconst cd_Table_whyNot_11 ?_
    refine r_vv1 cd_Table_whyNot_12 rfl ck_Table_whyNot_Table_scoredBy (Nat.le_of_ble_eq_true rfl) hT.1 rfl (sp_sc1 hT) ?_
    refine r_bipush cd_Table_whyNot_15 ?_
    refine r_icmp_lt cd_Table_whyNot_17 ⟨by omega, by omega⟩ ⟨by decide, by decide⟩ (fun c_17 => ?_) (fun c_17 => ?_)
    · skip
      refine r_iload_n cd_Table_whyNot_22 rfl ?_
      refine r_cv1 cd_Table_whyNot_23 rfl ck_Table_whyNot_Table_isPlayed rfl (Nat.le_of_ble_eq_true rfl) (sp_isPlayed_t (by omega)) ?_
      refine r_if_eq cd_Table_whyNot_26 ⟨by decide, by decide⟩ (fun c_26 => absurd c_26 (by decide)) (fun _ => ?_)
      refine r_aload_n cd_Table_whyNot_29 rfl ?_
      refine r_vv0 cd_Table_whyNot_30 rfl ck_Table_whyNot_Table_isDead (Nat.le_of_ble_eq_true rfl) hT.1 rfl (sp_isDead hT hw) ?_
      refine r_ifeq_p cd_Table_whyNot_33 (fun c_33 => ?_) (fun c_33 => ?_)
      · skip
        refine r_aload_n cd_Table_whyNot_54 rfl ?_
        refine r_iload_n cd_Table_whyNot_55 rfl ?_
        refine r_iload_n cd_Table_whyNot_56 rfl ?_
        refine r_vv2 cd_Table_whyNot_57 rfl ck_Table_whyNot_Table_isHeldWrongly (Nat.le_of_ble_eq_true rfl) hT.1 rfl (sp_wrong_4 hT hw c_33) ?_
        refine r_ifeq_p cd_Table_whyNot_60 (fun c_60 => ?_) (fun c_60 => ?_)
        · skip
          refine r_iload_n cd_Table_whyNot_65 rfl ?_
          refine r_if_ne cd_Table_whyNot_66 ⟨by decide, by decide⟩ (fun _ => ?_) (fun c_66 => absurd c_66 (by decide))
          refine r_iload_n cd_Table_whyNot_83 rfl ?_
          refine r_iconst cd_Table_whyNot_84 ?_
          refine r_icmp_ne cd_Table_whyNot_85 ⟨by decide, by decide⟩ ⟨by decide, by decide⟩ (fun _ => ?_) (fun c_85 => absurd c_85 (by decide))
          refine r_iload_n cd_Table_whyNot_100 rfl ?_
          refine r_iconst cd_Table_whyNot_101 ?_
          refine r_icmp_ne cd_Table_whyNot_102 ⟨by decide, by decide⟩ ⟨by decide, by decide⟩ (fun _ => ?_) (fun c_102 => absurd c_102 (by decide))
          refine r_iload_n cd_Table_whyNot_121 rfl ?_
          refine r_bipush cd_Table_whyNot_122 ?_
          refine r_icmp_ne cd_Table_whyNot_124 ⟨by decide, by decide⟩ ⟨by decide, by decide⟩ (fun _ => ?_) (fun c_124 => absurd c_124 (by decide))
          refine r_iload_n cd_Table_whyNot_138 rfl ?_
          refine r_iconst cd_Table_whyNot_139 ?_
          refine r_icmp_ne cd_Table_whyNot_140 ⟨by decide, by decide⟩ ⟨by decide, by decide⟩ (fun c_140 => absurd c_140 (by decide)) (fun _ => ?_)
          refine r_aload_n cd_Table_whyNot_143 rfl ?_
          refine r_iload_n cd_Table_whyNot_144 rfl ?_
          refine r_vv1 cd_Table_whyNot_145 rfl ck_Table_whyNot_Table_isNextMan (Nat.le_of_ble_eq_true rfl) hT.1 rfl (sp_isNextMan hT hw c_33 (by omega) (by omega)) ?_
          refine r_ifne_p cd_Table_whyNot_148 (fun c_148 => ?_) (fun c_148 => ?_)
          · skip
            refine r_iload_n cd_Table_whyNot_154 rfl ?_
            refine r_iconst cd_Table_whyNot_155 ?_
            refine r_icmp_ne cd_Table_whyNot_156 ⟨by decide, by decide⟩ ⟨by decide, by decide⟩ (fun _ => ?_) (fun c_156 => absurd c_156 (by decide))
            refine r_iload_n cd_Table_whyNot_179 rfl ?_
            refine r_bipush cd_Table_whyNot_180 ?_
            refine r_icmp_ne cd_Table_whyNot_182 ⟨by decide, by decide⟩ ⟨by decide, by decide⟩ (fun _ => ?_) (fun c_182 => absurd c_182 (by decide))
            refine r_iconst cd_Table_whyNot_198 ?_
            exact r_iret cd_Table_whyNot_199 rt_Table_whyNot (by (rw [why_4]; (repeat' split) <;> first | rfl | omega | (exfalso; omega) | (exact absurd c_60 id))) (by rfl)
          · skip
            refine r_bipush cd_Table_whyNot_151 ?_
            exact r_iret cd_Table_whyNot_153 rt_Table_whyNot (by (rw [why_4]; (repeat' split) <;> first | rfl | omega | (exfalso; omega) | (exact absurd c_60 id))) (by rfl)
        · skip
          refine r_iconst cd_Table_whyNot_63 ?_
          exact r_iret cd_Table_whyNot_64 rt_Table_whyNot (by (rw [why_4]; (repeat' split) <;> first | rfl | omega | (exfalso; omega) | (exact absurd c_60 id))) (by rfl)
      · skip
        refine r_goto cd_Table_whyNot_36 ?_
        refine r_iconst cd_Table_whyNot_52 ?_
        exact r_iret cd_Table_whyNot_53 rt_Table_whyNot (by (rw [why_4]; (repeat' split) <;> first | rfl | omega | (exfalso; omega) | (exact absurd c_60 id))) (by rfl)
    · skip
      refine r_iconst cd_Table_whyNot_20 ?_
      exact r_iret cd_Table_whyNot_21 rt_Table_whyNot (by (rw [why_4]; (repeat' split) <;> first | rfl | omega | (exfalso; omega) | (exact absurd c_60 id))) (by rfl)

theorem sp_why_5 {r n : Int} (hT : TabAt h t w) (hw : WF w) (h0 : 0 ≤ r) (h1 : r < 8) (n0 : -100 ≤ n) (n1 : n ≤ 100) : Sp xs m_Table_whyNot [vR t, vI 5, vI r, vI n] h (some (vI (why w 5 r n))) h := by
  have g1 := hw.2.2.2.2.1
  have g2 := hw.2.2.2.2.2.1
  have g3 := hw.2.2.2.2.2.2.1
  refine en_Table_whyNot ?_
  refine r_aload_n cd_Table_whyNot_0 rfl ?_
  refine r_iconst cd_Table_whyNot_1 ?_
  refine r_vv1 cd_Table_whyNot_2 rfl ck_Table_whyNot_Table_scoredBy (Nat.le_of_ble_eq_true rfl) hT.1 rfl (sp_sc0 hT) ?_
  refine r_bipush cd_Table_whyNot_5 ?_
  refine r_icmp_ge cd_Table_whyNot_7 ⟨by omega, by omega⟩ ⟨by decide, by decide⟩ (fun c_7 => ?_) (fun c_7 => ?_)
  · skip
    refine r_iconst cd_Table_whyNot_20 ?_
    exact r_iret cd_Table_whyNot_21 rt_Table_whyNot (by (rw [why_5]; (repeat' split) <;> first | rfl | omega | (exfalso; omega) | (exact absurd c_60 id))) (by rfl)
  · skip
    refine r_aload_n cd_Table_whyNot_10 rfl ?_
    refine r_iconst cd_Table_whyNot_11 ?_
    refine r_vv1 cd_Table_whyNot_12 rfl ck_Table_whyNot_Table_scoredBy (Nat.le_of_ble_eq_true rfl) hT.1 rfl (sp_sc1 hT) ?_
    refine r_bipush cd_Table_whyNot_15 ?_
    refine r_icmp_lt cd_Table_whyNot_17 ⟨by omega, by omega⟩ ⟨by decide, by decide⟩ (fun c_17 => ?_) (fun c_17 => ?_)
    · skip
      refine r_iload_n cd_Table_whyNot_22 rfl ?_
      refine r_cv1 cd_Table_whyNot_23 rfl ck_Table_whyNot_Table_isPlayed rfl (Nat.le_of_ble_eq_true rfl) (sp_isPlayed_t (by omega)) ?_
      refine r_if_eq cd_Table_whyNot_26 ⟨by decide, by decide⟩ (fun c_26 => absurd c_26 (by decide)) (fun _ => ?_)
      refine r_aload_n cd_Table_whyNot_29 rfl ?_
      refine r_vv0 cd_Table_whyNot_30 rfl ck_Table_whyNot_Table_isDead (Nat.le_of_ble_eq_true rfl) hT.1 rfl (sp_isDead hT hw) ?_
      refine r_ifeq_p cd_Table_whyNot_33 (fun c_33 => ?_) (fun c_33 => ?_)
      · skip
        refine r_aload_n cd_Table_whyNot_54 rfl ?_
        refine r_iload_n cd_Table_whyNot_55 rfl ?_
        refine r_iload_n cd_Table_whyNot_56 rfl ?_
        refine r_vv2 cd_Table_whyNot_57 rfl ck_Table_whyNot_Table_isHeldWrongly (Nat.le_of_ble_eq_true rfl) hT.1 rfl (sp_wrong_5 hT hw c_33) ?_
        refine r_ifeq_p cd_Table_whyNot_60 (fun c_60 => ?_) (fun c_60 => ?_)
        · skip
          refine r_iload_n cd_Table_whyNot_65 rfl ?_
          refine r_if_ne cd_Table_whyNot_66 ⟨by decide, by decide⟩ (fun _ => ?_) (fun c_66 => absurd c_66 (by decide))
          refine r_iload_n cd_Table_whyNot_83 rfl ?_
          refine r_iconst cd_Table_whyNot_84 ?_
          refine r_icmp_ne cd_Table_whyNot_85 ⟨by decide, by decide⟩ ⟨by decide, by decide⟩ (fun _ => ?_) (fun c_85 => absurd c_85 (by decide))
          refine r_iload_n cd_Table_whyNot_100 rfl ?_
          refine r_iconst cd_Table_whyNot_101 ?_
          refine r_icmp_ne cd_Table_whyNot_102 ⟨by decide, by decide⟩ ⟨by decide, by decide⟩ (fun _ => ?_) (fun c_102 => absurd c_102 (by decide))
          refine r_iload_n cd_Table_whyNot_121 rfl ?_
          refine r_bipush cd_Table_whyNot_122 ?_
          refine r_icmp_ne cd_Table_whyNot_124 ⟨by decide, by decide⟩ ⟨by decide, by decide⟩ (fun _ => ?_) (fun c_124 => absurd c_124 (by decide))
          refine r_iload_n cd_Table_whyNot_138 rfl ?_
          refine r_iconst cd_Table_whyNot_139 ?_
          refine r_icmp_ne cd_Table_whyNot_140 ⟨by decide, by decide⟩ ⟨by decide, by decide⟩ (fun _ => ?_) (fun c_140 => absurd c_140 (by decide))
          refine r_iload_n cd_Table_whyNot_154 rfl ?_
          refine r_iconst cd_Table_whyNot_155 ?_
          refine r_icmp_ne cd_Table_whyNot_156 ⟨by decide, by decide⟩ ⟨by decide, by decide⟩ (fun c_156 => absurd c_156 (by decide)) (fun _ => ?_)
          refine r_aload_n cd_Table_whyNot_159 rfl ?_
          refine r_aload_n cd_Table_whyNot_160 rfl ?_
          refine r_getfield cd_Table_whyNot_161 hT.1 rfl ?_
          refine r_aload_n cd_Table_whyNot_164 rfl ?_
          refine r_getfield cd_Table_whyNot_165 hT.1 rfl ?_
          refine r_iload_n cd_Table_whyNot_168 rfl ?_
          refine r_vv3 cd_Table_whyNot_169 rfl ck_Table_whyNot_Table_overFrom (Nat.le_of_ble_eq_true rfl) hT.1 rfl (sp_overFrom hT hw (alive_bd hw c_33).1 (alive_bd hw c_33).2.1 (alive_bd hw c_33).2.2.1 (alive_bd hw c_33).2.2.2 h0 h1) ?_
          refine r_iconst cd_Table_whyNot_172 ?_
          refine r_icmp_ne cd_Table_whyNot_173 ⟨by (have q9 := ovr_bd hw (alive_bd hw c_33).1 (alive_bd hw c_33).2.1 (alive_bd hw c_33).2.2.1 (alive_bd hw c_33).2.2.2 h0 h1; omega), by (have q9 := ovr_bd hw (alive_bd hw c_33).1 (alive_bd hw c_33).2.1 (alive_bd hw c_33).2.2.1 (alive_bd hw c_33).2.2.2 h0 h1; omega)⟩ ⟨by decide, by decide⟩ (fun c_173 => ?_) (fun c_173 => ?_)
          · skip
            refine r_iload_n cd_Table_whyNot_179 rfl ?_
            refine r_bipush cd_Table_whyNot_180 ?_
            refine r_icmp_ne cd_Table_whyNot_182 ⟨by decide, by decide⟩ ⟨by decide, by decide⟩ (fun _ => ?_) (fun c_182 => absurd c_182 (by decide))
            refine r_iconst cd_Table_whyNot_198 ?_
            exact r_iret cd_Table_whyNot_199 rt_Table_whyNot (by (rw [why_5]; (repeat' split) <;> first | rfl | omega | (exfalso; omega) | (exact absurd c_60 id))) (by rfl)
          · skip
            refine r_bipush cd_Table_whyNot_176 ?_
            exact r_iret cd_Table_whyNot_178 rt_Table_whyNot (by (rw [why_5]; (repeat' split) <;> first | rfl | omega | (exfalso; omega) | (exact absurd c_60 id))) (by rfl)
        · skip
          refine r_iconst cd_Table_whyNot_63 ?_
          exact r_iret cd_Table_whyNot_64 rt_Table_whyNot (by (rw [why_5]; (repeat' split) <;> first | rfl | omega | (exfalso; omega) | (exact absurd c_60 id))) (by rfl)
      · skip
        refine r_goto cd_Table_whyNot_36 ?_
        refine r_iconst cd_Table_whyNot_52 ?_
        exact r_iret cd_Table_whyNot_53 rt_Table_whyNot (by (rw [why_5]; (repeat' split) <;> first | rfl | omega | (exfalso; omega) | (exact absurd c_60 id))) (by rfl)
    · skip
      refine r_iconst cd_Table_whyNot_20 ?_
      exact r_iret cd_Table_whyNot_21 rt_Table_whyNot (by (rw [why_5]; (repeat' split) <;> first | rfl | omega | (exfalso; omega) | (exact absurd c_60 id))) (by rfl)

theorem sp_why_6 {r n : Int} (hT : TabAt h t w) (hw : WF w) (n0 : -100 ≤ n) (n1 : n ≤ 100) : Sp xs m_Table_whyNot [vR t, vI 6, vI r, vI n] h (some (vI (why w 6 r n))) h := by
  have g1 := hw.2.2.2.2.1
  have g2 := hw.2.2.2.2.2.1
  have g3 := hw.2.2.2.2.2.2.1
  refine en_Table_whyNot ?_
  refine r_aload_n cd_Table_whyNot_0 rfl ?_
  refine r_iconst cd_Table_whyNot_1 ?_
  refine r_vv1 cd_Table_whyNot_2 rfl ck_Table_whyNot_Table_scoredBy (Nat.le_of_ble_eq_true rfl) hT.1 rfl (sp_sc0 hT) ?_
  refine r_bipush cd_Table_whyNot_5 ?_
  refine r_icmp_ge cd_Table_whyNot_7 ⟨by omega, by omega⟩ ⟨by decide, by decide⟩ (fun c_7 => ?_) (fun c_7 => ?_)
  · skip
    refine r_iconst cd_Table_whyNot_20 ?_
    exact r_iret cd_Table_whyNot_21 rt_Table_whyNot (by (rw [why_6]; (repeat' split) <;> first | rfl | omega | (exfalso; omega) | (exact absurd c_60 id))) (by rfl)
  · skip
    refine r_aload_n cd_Table_whyNot_10 rfl ?_
    refine r_iconst cd_Table_whyNot_11 ?_
    refine r_vv1 cd_Table_whyNot_12 rfl ck_Table_whyNot_Table_scoredBy (Nat.le_of_ble_eq_true rfl) hT.1 rfl (sp_sc1 hT) ?_
    refine r_bipush cd_Table_whyNot_15 ?_
    refine r_icmp_lt cd_Table_whyNot_17 ⟨by omega, by omega⟩ ⟨by decide, by decide⟩ (fun c_17 => ?_) (fun c_17 => ?_)
    · skip
      refine r_iload_n cd_Table_whyNot_22 rfl ?_
      refine r_cv1 cd_Table_whyNot_23 rfl ck_Table_whyNot_Table_isPlayed rfl (Nat.le_of_ble_eq_true rfl) (sp_isPlayed_t (by omega)) ?_
      refine r_if_eq cd_Table_whyNot_26 ⟨by decide, by decide⟩ (fun c_26 => absurd c_26 (by decide)) (fun _ => ?_)
      refine r_aload_n cd_Table_whyNot_29 rfl ?_
      refine r_vv0 cd_Table_whyNot_30 rfl ck_Table_whyNot_Table_isDead (Nat.le_of_ble_eq_true rfl) hT.1 rfl (sp_isDead hT hw) ?_
      refine r_ifeq_p cd_Table_whyNot_33 (fun c_33 => ?_) (fun c_33 => ?_)
      · skip
        refine r_aload_n cd_Table_whyNot_54 rfl ?_
        refine r_iload_n cd_Table_whyNot_55 rfl ?_
        refine r_iload_n cd_Table_whyNot_56 rfl ?_
        refine r_vv2 cd_Table_whyNot_57 rfl ck_Table_whyNot_Table_isHeldWrongly (Nat.le_of_ble_eq_true rfl) hT.1 rfl (sp_wrong_6 hT hw c_33) ?_
        refine r_ifeq_p cd_Table_whyNot_60 (fun c_60 => ?_) (fun c_60 => ?_)
        · skip
          refine r_iload_n cd_Table_whyNot_65 rfl ?_
          refine r_if_ne cd_Table_whyNot_66 ⟨by decide, by decide⟩ (fun _ => ?_) (fun c_66 => absurd c_66 (by decide))
          refine r_iload_n cd_Table_whyNot_83 rfl ?_
          refine r_iconst cd_Table_whyNot_84 ?_
          refine r_icmp_ne cd_Table_whyNot_85 ⟨by decide, by decide⟩ ⟨by decide, by decide⟩ (fun _ => ?_) (fun c_85 => absurd c_85 (by decide))
          refine r_iload_n cd_Table_whyNot_100 rfl ?_
          refine r_iconst cd_Table_whyNot_101 ?_
          refine r_icmp_ne cd_Table_whyNot_102 ⟨by decide, by decide⟩ ⟨by decide, by decide⟩ (fun _ => ?_) (fun c_102 => absurd c_102 (by decide))
          refine r_iload_n cd_Table_whyNot_121 rfl ?_
          refine r_bipush cd_Table_whyNot_122 ?_
          refine r_icmp_ne cd_Table_whyNot_124 ⟨by decide, by decide⟩ ⟨by decide, by decide⟩ (fun _ => ?_) (fun c_124 => absurd c_124 (by decide))
          refine r_iload_n cd_Table_whyNot_138 rfl ?_
          refine r_iconst cd_Table_whyNot_139 ?_
          refine r_icmp_ne cd_Table_whyNot_140 ⟨by decide, by decide⟩ ⟨by decide, by decide⟩ (fun _ => ?_) (fun c_140 => absurd c_140 (by decide))
          refine r_iload_n cd_Table_whyNot_154 rfl ?_
          refine r_iconst cd_Table_whyNot_155 ?_
          refine r_icmp_ne cd_Table_whyNot_156 ⟨by decide, by decide⟩ ⟨by decide, by decide⟩ (fun _ => ?_) (fun c_156 => absurd c_156 (by decide))
          refine r_iload_n cd_Table_whyNot_179 rfl ?_
          refine r_bipush cd_Table_whyNot_180 ?_
          refine r_icmp_ne cd_Table_whyNot_182 ⟨by decide, by decide⟩ ⟨by decide, by decide⟩ (fun _ => ?_) (fun c_182 => absurd c_182 (by decide))
          refine r_iconst cd_Table_whyNot_198 ?_
          exact r_iret cd_Table_whyNot_199 rt_Table_whyNot (by (rw [why_6]; (repeat' split) <;> first | rfl | omega | (exfalso; omega) | (exact absurd c_60 id))) (by rfl)
        · skip
          refine r_iconst cd_Table_whyNot_63 ?_
          exact r_iret cd_Table_whyNot_64 rt_Table_whyNot (by (rw [why_6]; (repeat' split) <;> first | rfl | omega | (exfalso; omega) | (exact absurd c_60 id))) (by rfl)
      · skip
        refine r_goto cd_Table_whyNot_36 ?_
        refine r_iconst cd_Table_whyNot_52 ?_
        exact r_iret cd_Table_whyNot_53 rt_Table_whyNot (by (rw [why_6]; (repeat' split) <;> first | rfl | omega | (exfalso; omega) | (exact absurd c_60 id))) (by rfl)
    · skip
      refine r_iconst cd_Table_whyNot_20 ?_
      exact r_iret cd_Table_whyNot_21 rt_Table_whyNot (by (rw [why_6]; (repeat' split) <;> first | rfl | omega | (exfalso; omega) | (exact absurd c_60 id))) (by rfl)

theorem sp_why_7 {r n : Int} (hT : TabAt h t w) (hw : WF w) (h0 : 0 ≤ r) (h1 : r < 8) (n0 : -100 ≤ n) (n1 : n ≤ 100) : Sp xs m_Table_whyNot [vR t, vI 7, vI r, vI n] h (some (vI (why w 7 r n))) h := by
  have g1 := hw.2.2.2.2.1
  have g2 := hw.2.2.2.2.2.1
  have g3 := hw.2.2.2.2.2.2.1
  refine en_Table_whyNot ?_
  refine r_aload_n cd_Table_whyNot_0 rfl ?_
  refine r_iconst cd_Table_whyNot_1 ?_
  refine r_vv1 cd_Table_whyNot_2 rfl ck_Table_whyNot_Table_scoredBy (Nat.le_of_ble_eq_true rfl) hT.1 rfl (sp_sc0 hT) ?_
  refine r_bipush cd_Table_whyNot_5 ?_
  refine r_icmp_ge cd_Table_whyNot_7 ⟨by omega, by omega⟩ ⟨by decide, by decide⟩ (fun c_7 => ?_) (fun c_7 => ?_)
  · skip
    refine r_iconst cd_Table_whyNot_20 ?_
    exact r_iret cd_Table_whyNot_21 rt_Table_whyNot (by (rw [why_7]; (repeat' split) <;> first | rfl | omega | (exfalso; omega) | (exact absurd c_60 id))) (by rfl)
  · skip
    refine r_aload_n cd_Table_whyNot_10 rfl ?_
    refine r_iconst cd_Table_whyNot_11 ?_
    refine r_vv1 cd_Table_whyNot_12 rfl ck_Table_whyNot_Table_scoredBy (Nat.le_of_ble_eq_true rfl) hT.1 rfl (sp_sc1 hT) ?_
    refine r_bipush cd_Table_whyNot_15 ?_
    refine r_icmp_lt cd_Table_whyNot_17 ⟨by omega, by omega⟩ ⟨by decide, by decide⟩ (fun c_17 => ?_) (fun c_17 => ?_)
    · skip
      refine r_iload_n cd_Table_whyNot_22 rfl ?_
      refine r_cv1 cd_Table_whyNot_23 rfl ck_Table_whyNot_Table_isPlayed rfl (Nat.le_of_ble_eq_true rfl) (sp_isPlayed_f (by omega)) ?_
      refine r_if_eq cd_Table_whyNot_26 ⟨by decide, by decide⟩ (fun _ => ?_) (fun c_26 => absurd c_26 (by decide))
      refine r_iload_n cd_Table_whyNot_39 rfl ?_
      refine r_bipush cd_Table_whyNot_40 ?_
      refine r_icmp_ne cd_Table_whyNot_42 ⟨by decide, by decide⟩ ⟨by decide, by decide⟩ (fun c_42 => absurd c_42 (by decide)) (fun _ => ?_)
      refine r_aload_n cd_Table_whyNot_45 rfl ?_
      refine r_vv0 cd_Table_whyNot_46 rfl ck_Table_whyNot_Table_isDead (Nat.le_of_ble_eq_true rfl) hT.1 rfl (sp_isDead hT hw) ?_
      refine r_ifne_p cd_Table_whyNot_49 (fun c_49 => ?_) (fun c_49 => ?_)
      · skip
        refine r_aload_n cd_Table_whyNot_54 rfl ?_
        refine r_iload_n cd_Table_whyNot_55 rfl ?_
        refine r_iload_n cd_Table_whyNot_56 rfl ?_
        refine r_vv2 cd_Table_whyNot_57 rfl ck_Table_whyNot_Table_isHeldWrongly (Nat.le_of_ble_eq_true rfl) hT.1 rfl sp_wrong_7 ?_
        refine r_ifeq_p cd_Table_whyNot_60 (fun c_60 => ?_) (fun c_60 => ?_)
        · skip
          refine r_iload_n cd_Table_whyNot_65 rfl ?_
          refine r_if_ne cd_Table_whyNot_66 ⟨by decide, by decide⟩ (fun _ => ?_) (fun c_66 => absurd c_66 (by decide))
          refine r_iload_n cd_Table_whyNot_83 rfl ?_
          refine r_iconst cd_Table_whyNot_84 ?_
          refine r_icmp_ne cd_Table_whyNot_85 ⟨by decide, by decide⟩ ⟨by decide, by decide⟩ (fun _ => ?_) (fun c_85 => absurd c_85 (by decide))
          refine r_iload_n cd_Table_whyNot_100 rfl ?_
          refine r_iconst cd_Table_whyNot_101 ?_
          refine r_icmp_ne cd_Table_whyNot_102 ⟨by decide, by decide⟩ ⟨by decide, by decide⟩ (fun _ => ?_) (fun c_102 => absurd c_102 (by decide))
          refine r_iload_n cd_Table_whyNot_121 rfl ?_
          refine r_bipush cd_Table_whyNot_122 ?_
          refine r_icmp_ne cd_Table_whyNot_124 ⟨by decide, by decide⟩ ⟨by decide, by decide⟩ (fun c_124 => absurd c_124 (by decide)) (fun _ => ?_)
          refine r_iload_n cd_Table_whyNot_127 rfl ?_
          refine r_iload_n cd_Table_whyNot_128 rfl ?_
          refine r_cv2 cd_Table_whyNot_129 rfl ck_Table_whyNot_Rods_isMan rfl (Nat.le_of_ble_eq_true rfl) (sp_Rods_isMan ⟨by omega, by omega⟩ ⟨by omega, by omega⟩) ?_
          refine r_ifne_p cd_Table_whyNot_132 (fun c_132 => ?_) (fun c_132 => ?_)
          · skip
            refine r_iload_n cd_Table_whyNot_138 rfl ?_
            refine r_iconst cd_Table_whyNot_139 ?_
            refine r_icmp_ne cd_Table_whyNot_140 ⟨by decide, by decide⟩ ⟨by decide, by decide⟩ (fun _ => ?_) (fun c_140 => absurd c_140 (by decide))
            refine r_iload_n cd_Table_whyNot_154 rfl ?_
            refine r_iconst cd_Table_whyNot_155 ?_
            refine r_icmp_ne cd_Table_whyNot_156 ⟨by decide, by decide⟩ ⟨by decide, by decide⟩ (fun _ => ?_) (fun c_156 => absurd c_156 (by decide))
            refine r_iload_n cd_Table_whyNot_179 rfl ?_
            refine r_bipush cd_Table_whyNot_180 ?_
            refine r_icmp_ne cd_Table_whyNot_182 ⟨by decide, by decide⟩ ⟨by decide, by decide⟩ (fun _ => ?_) (fun c_182 => absurd c_182 (by decide))
            refine r_iconst cd_Table_whyNot_198 ?_
            exact r_iret cd_Table_whyNot_199 rt_Table_whyNot (by (rw [why_7]; (repeat' split) <;> first | rfl | omega | (exfalso; omega) | (exact absurd c_60 id))) (by rfl)
          · skip
            refine r_bipush cd_Table_whyNot_135 ?_
            exact r_iret cd_Table_whyNot_137 rt_Table_whyNot (by (rw [why_7]; (repeat' split) <;> first | rfl | omega | (exfalso; omega) | (exact absurd c_60 id))) (by rfl)
        · skip
          skip
          refine r_iconst cd_Table_whyNot_63 ?_
          exact r_iret cd_Table_whyNot_64 rt_Table_whyNot (by (rw [why_7]; (repeat' split) <;> first | rfl | omega | (exfalso; omega) | (exact absurd c_60 id))) (by rfl)
      · skip
        refine r_iconst cd_Table_whyNot_52 ?_
        exact r_iret cd_Table_whyNot_53 rt_Table_whyNot (by (rw [why_7]; (repeat' split) <;> first | rfl | omega | (exfalso; omega) | (exact absurd c_60 id))) (by rfl)
    · skip
      refine r_iconst cd_Table_whyNot_20 ?_
      exact r_iret cd_Table_whyNot_21 rt_Table_whyNot (by (rw [why_7]; (repeat' split) <;> first | rfl | omega | (exfalso; omega) | (exact absurd c_60 id))) (by rfl)

theorem sp_why_8 {r n : Int} (hT : TabAt h t w) (hw : WF w) (n0 : -100 ≤ n) (n1 : n ≤ 100) : Sp xs m_Table_whyNot [vR t, vI 8, vI r, vI n] h (some (vI (why w 8 r n))) h := by
  have g1 := hw.2.2.2.2.1
  have g2 := hw.2.2.2.2.2.1
  have g3 := hw.2.2.2.2.2.2.1
  refine en_Table_whyNot ?_
  refine r_aload_n cd_Table_whyNot_0 rfl ?_
  refine r_iconst cd_Table_whyNot_1 ?_
  refine r_vv1 cd_Table_whyNot_2 rfl ck_Table_whyNot_Table_scoredBy (Nat.le_of_ble_eq_true rfl) hT.1 rfl (sp_sc0 hT) ?_
  refine r_bipush cd_Table_whyNot_5 ?_
  refine r_icmp_ge cd_Table_whyNot_7 ⟨by omega, by omega⟩ ⟨by decide, by decide⟩ (fun c_7 => ?_) (fun c_7 => ?_)
  · skip
    refine r_iconst cd_Table_whyNot_20 ?_
    exact r_iret cd_Table_whyNot_21 rt_Table_whyNot (by (rw [why_8]; (repeat' split) <;> first | rfl | omega | (exfalso; omega) | (exact absurd c_60 id))) (by rfl)
  · skip
    refine r_aload_n cd_Table_whyNot_10 rfl ?_
    refine r_iconst cd_Table_whyNot_11 ?_
    refine r_vv1 cd_Table_whyNot_12 rfl ck_Table_whyNot_Table_scoredBy (Nat.le_of_ble_eq_true rfl) hT.1 rfl (sp_sc1 hT) ?_
    refine r_bipush cd_Table_whyNot_15 ?_
    refine r_icmp_lt cd_Table_whyNot_17 ⟨by omega, by omega⟩ ⟨by decide, by decide⟩ (fun c_17 => ?_) (fun c_17 => ?_)
    · skip
      refine r_iload_n cd_Table_whyNot_22 rfl ?_
      refine r_cv1 cd_Table_whyNot_23 rfl ck_Table_whyNot_Table_isPlayed rfl (Nat.le_of_ble_eq_true rfl) (sp_isPlayed_f (by omega)) ?_
      refine r_if_eq cd_Table_whyNot_26 ⟨by decide, by decide⟩ (fun _ => ?_) (fun c_26 => absurd c_26 (by decide))
      refine r_iload_n cd_Table_whyNot_39 rfl ?_
      refine r_bipush cd_Table_whyNot_40 ?_
      refine r_icmp_ne cd_Table_whyNot_42 ⟨by decide, by decide⟩ ⟨by decide, by decide⟩ (fun _ => ?_) (fun c_42 => absurd c_42 (by decide))
      refine r_aload_n cd_Table_whyNot_54 rfl ?_
      refine r_iload_n cd_Table_whyNot_55 rfl ?_
      refine r_iload_n cd_Table_whyNot_56 rfl ?_
      refine r_vv2 cd_Table_whyNot_57 rfl ck_Table_whyNot_Table_isHeldWrongly (Nat.le_of_ble_eq_true rfl) hT.1 rfl sp_wrong_8 ?_
      refine r_ifeq_p cd_Table_whyNot_60 (fun c_60 => ?_) (fun c_60 => ?_)
      · skip
        refine r_iload_n cd_Table_whyNot_65 rfl ?_
        refine r_if_ne cd_Table_whyNot_66 ⟨by decide, by decide⟩ (fun _ => ?_) (fun c_66 => absurd c_66 (by decide))
        refine r_iload_n cd_Table_whyNot_83 rfl ?_
        refine r_iconst cd_Table_whyNot_84 ?_
        refine r_icmp_ne cd_Table_whyNot_85 ⟨by decide, by decide⟩ ⟨by decide, by decide⟩ (fun _ => ?_) (fun c_85 => absurd c_85 (by decide))
        refine r_iload_n cd_Table_whyNot_100 rfl ?_
        refine r_iconst cd_Table_whyNot_101 ?_
        refine r_icmp_ne cd_Table_whyNot_102 ⟨by decide, by decide⟩ ⟨by decide, by decide⟩ (fun _ => ?_) (fun c_102 => absurd c_102 (by decide))
        refine r_iload_n cd_Table_whyNot_121 rfl ?_
        refine r_bipush cd_Table_whyNot_122 ?_
        refine r_icmp_ne cd_Table_whyNot_124 ⟨by decide, by decide⟩ ⟨by decide, by decide⟩ (fun _ => ?_) (fun c_124 => absurd c_124 (by decide))
        refine r_iload_n cd_Table_whyNot_138 rfl ?_
        refine r_iconst cd_Table_whyNot_139 ?_
        refine r_icmp_ne cd_Table_whyNot_140 ⟨by decide, by decide⟩ ⟨by decide, by decide⟩ (fun _ => ?_) (fun c_140 => absurd c_140 (by decide))
        refine r_iload_n cd_Table_whyNot_154 rfl ?_
        refine r_iconst cd_Table_whyNot_155 ?_
        refine r_icmp_ne cd_Table_whyNot_156 ⟨by decide, by decide⟩ ⟨by decide, by decide⟩ (fun _ => ?_) (fun c_156 => absurd c_156 (by decide))
        refine r_iload_n cd_Table_whyNot_179 rfl ?_
        refine r_bipush cd_Table_whyNot_180 ?_
        refine r_icmp_ne cd_Table_whyNot_182 ⟨by decide, by decide⟩ ⟨by decide, by decide⟩ (fun c_182 => absurd c_182 (by decide)) (fun _ => ?_)
        refine r_aload_n cd_Table_whyNot_185 rfl ?_
        refine r_getfield cd_Table_whyNot_186 hT.1 rfl ?_
        refine r_sipush cd_Table_whyNot_189 ?_
        refine r_icmp_lt cd_Table_whyNot_192 ⟨by omega, by omega⟩ ⟨by decide, by decide⟩ (fun c_192 => ?_) (fun c_192 => ?_)
        · skip
          refine r_iconst cd_Table_whyNot_198 ?_
          exact r_iret cd_Table_whyNot_199 rt_Table_whyNot (by (rw [why_8]; (repeat' split) <;> first | rfl | omega | (exfalso; omega) | (exact absurd c_60 id))) (by rfl)
        · skip
          refine r_bipush cd_Table_whyNot_195 ?_
          exact r_iret cd_Table_whyNot_197 rt_Table_whyNot (by (rw [why_8]; (repeat' split) <;> first | rfl | omega | (exfalso; omega) | (exact absurd c_60 id))) (by rfl)
      · skip
        skip
        refine r_iconst cd_Table_whyNot_63 ?_
        exact r_iret cd_Table_whyNot_64 rt_Table_whyNot (by (rw [why_8]; (repeat' split) <;> first | rfl | omega | (exfalso; omega) | (exact absurd c_60 id))) (by rfl)
    · skip
      refine r_iconst cd_Table_whyNot_20 ?_
      exact r_iret cd_Table_whyNot_21 rt_Table_whyNot (by (rw [why_8]; (repeat' split) <;> first | rfl | omega | (exfalso; omega) | (exact absurd c_60 id))) (by rfl)
end C34
