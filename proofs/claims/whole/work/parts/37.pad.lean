-- contracts of Pad
section C37
variable {xs : List Int} {h : MH} {t : Nat} {ss : List Int} {cn pl k r n : Int}
def pobj (t : Nat) (cn pl k r n : Int) : HC := .inl (3, [vR (t + 1), vI cn, vI pl, vI k, vI r, vI n])
def PadAt (h : MH) (t : Nat) (ss : List Int) (cn pl k r n : Int) : Prop := h[t]? = some (pobj t cn pl k r n) ∧ h[t + 1]? = some (.inr (0, ss)) ∧ ss.length = 60 ∧ 0 ≤ cn ∧ cn ≤ 60 ∧ 0 ≤ pl ∧ ∀ j : Int, 0 ≤ j → j < cn → 33 ≤ at_ ss j ∧ at_ ss j ≤ 126
def sg (ss : List Int) (cn j : Int) : Int := if j < cn then at_ ss j else 0
theorem pad_set {cn' pl' k' r' n' : Int} (hP : PadAt h t ss cn pl k r n) (h0 : 0 ≤ cn') (h1 : cn' ≤ cn) (h2 : 0 ≤ pl') : PadAt (h.set t (pobj t cn' pl' k' r' n')) t ss cn' pl' k' r' n' :=
  ⟨gs_eq hP.1, gs_ne (by omega) hP.2.1, hP.2.2.1, h0, by have := hP.2.2.2.2.1; omega, h2, fun j j0 j1 => hP.2.2.2.2.2.2 j j0 (by omega)⟩
theorem sg_bd (hP : PadAt h t ss cn pl k r n) {j : Int} (h0 : 0 ≤ j) : 0 ≤ sg ss cn j ∧ sg ss cn j ≤ 126 := by
  unfold sg
  split
  · next z => have := hP.2.2.2.2.2.2 j h0 z; omega
  · omega
theorem sp_isWithin {v lo hi : Int} (h1 : inR v) (h2 : inR lo) (h3 : inR hi) : Sp xs m_F_isWithin [vI v, vI lo, vI hi] h (some (vI (bp (lo ≤ v ∧ v ≤ hi)))) h := by
  obtain ⟨a1, a2⟩ := h1
  obtain ⟨a3, a4⟩ := h2
  obtain ⟨a5, a6⟩ := h3
  refine en_F_isWithin ?_
  refine r_iload_n cd_F_isWithin_0 rfl ?_
  refine r_iload_n cd_F_isWithin_1 rfl ?_
  refine r_icmp_lt cd_F_isWithin_2 ⟨by omega, by omega⟩ ⟨by omega, by omega⟩ (fun c_2 => ?_) (fun c_2 => ?_)
  · skip
    refine r_iconst cd_F_isWithin_14 ?_
    exact r_zret cd_F_isWithin_15 rt_F_isWithin (by (unfold bp; split <;> first | rfl | omega)) (by rfl)
  · skip
    refine r_iload_n cd_F_isWithin_5 rfl ?_
    refine r_iload_n cd_F_isWithin_6 rfl ?_
    refine r_icmp_gt cd_F_isWithin_7 ⟨by omega, by omega⟩ ⟨by omega, by omega⟩ (fun c_7 => ?_) (fun c_7 => ?_)
    · skip
      refine r_iconst cd_F_isWithin_14 ?_
      exact r_zret cd_F_isWithin_15 rt_F_isWithin (by (unfold bp; split <;> first | rfl | omega)) (by rfl)
    · skip
      refine r_iconst cd_F_isWithin_10 ?_
      refine r_goto cd_F_isWithin_11 ?_
      exact r_zret cd_F_isWithin_15 rt_F_isWithin (by (unfold bp; split <;> first | rfl | omega)) (by rfl)
theorem sp_isBit {v : Int} (h1 : inR v) : Sp xs m_F_isBit [vI v] h (some (vI (bp (v = 0 ∨ v = 1)))) h := by
  obtain ⟨a1, a2⟩ := h1
  refine en_F_isBit ?_
  refine r_iload_n cd_F_isBit_0 rfl ?_
  refine r_if_eq cd_F_isBit_1 ⟨by omega, by omega⟩ (fun c_1 => ?_) (fun c_1 => ?_)
  · skip
    refine r_iconst cd_F_isBit_9 ?_
    refine r_goto cd_F_isBit_10 ?_
    exact r_zret cd_F_isBit_14 rt_F_isBit (by (unfold bp; split <;> first | rfl | omega)) (by rfl)
  · skip
    refine r_iload_n cd_F_isBit_4 rfl ?_
    refine r_iconst cd_F_isBit_5 ?_
    refine r_icmp_ne cd_F_isBit_6 ⟨by omega, by omega⟩ ⟨by decide, by decide⟩ (fun c_6 => ?_) (fun c_6 => ?_)
    · skip
      refine r_iconst cd_F_isBit_13 ?_
      exact r_zret cd_F_isBit_14 rt_F_isBit (by (unfold bp; split <;> first | rfl | omega)) (by rfl)
    · skip
      refine r_iconst cd_F_isBit_9 ?_
      refine r_goto cd_F_isBit_10 ?_
      exact r_zret cd_F_isBit_14 rt_F_isBit (by (unfold bp; split <;> first | rfl | omega)) (by rfl)
theorem sp_Pad_size (hP : PadAt h t ss cn pl k r n) : Sp xs m_Pad_size [vR t] h (some (vI cn)) h := by
  refine en_Pad_size ?_
  refine r_aload_n cd_Pad_size_0 rfl ?_
  refine r_getfield cd_Pad_size_1 hP.1 rfl ?_
  exact r_iret cd_Pad_size_4 rt_Pad_size (by first | rfl | omega | (split <;> first | rfl | omega)) (by rfl)
theorem sp_Pad_kind (hP : PadAt h t ss cn pl k r n) : Sp xs m_Pad_kind [vR t] h (some (vI k)) h := by
  refine en_Pad_kind ?_
  refine r_aload_n cd_Pad_kind_0 rfl ?_
  refine r_getfield cd_Pad_kind_1 hP.1 rfl ?_
  exact r_iret cd_Pad_kind_4 rt_Pad_kind (by first | rfl | omega | (split <;> first | rfl | omega)) (by rfl)
theorem sp_Pad_rod (hP : PadAt h t ss cn pl k r n) : Sp xs m_Pad_rod [vR t] h (some (vI r)) h := by
  refine en_Pad_rod ?_
  refine r_aload_n cd_Pad_rod_0 rfl ?_
  refine r_getfield cd_Pad_rod_1 hP.1 rfl ?_
  exact r_iret cd_Pad_rod_4 rt_Pad_rod (by first | rfl | omega | (split <;> first | rfl | omega)) (by rfl)
theorem sp_Pad_number (hP : PadAt h t ss cn pl k r n) : Sp xs m_Pad_number [vR t] h (some (vI n)) h := by
  refine en_Pad_number ?_
  refine r_aload_n cd_Pad_number_0 rfl ?_
  refine r_getfield cd_Pad_number_1 hP.1 rfl ?_
  exact r_iret cd_Pad_number_4 rt_Pad_number (by first | rfl | omega | (split <;> first | rfl | omega)) (by rfl)
theorem sp_Pad_clear (hP : PadAt h t ss cn pl k r n) : Sp xs m_Pad_clear [vR t] h none (h.set t (pobj t 0 pl k r n)) := by
  refine en_Pad_clear ?_
  refine r_aload_n cd_Pad_clear_0 rfl ?_
  refine r_iconst cd_Pad_clear_1 ?_
  refine r_putfield cd_Pad_clear_2 hP.1 (Nat.le_of_ble_eq_true rfl) rfl ?_
  exact r_vret cd_Pad_clear_5 rt_Pad_clear (by rfl)
theorem sp_Pad_rewind (hP : PadAt h t ss cn pl k r n) : Sp xs m_Pad_rewind [vR t] h none (h.set t (pobj t cn 0 k r n)) := by
  refine en_Pad_rewind ?_
  refine r_aload_n cd_Pad_rewind_0 rfl ?_
  refine r_iconst cd_Pad_rewind_1 ?_
  refine r_putfield cd_Pad_rewind_2 hP.1 (Nat.le_of_ble_eq_true rfl) rfl ?_
  exact r_vret cd_Pad_rewind_5 rt_Pad_rewind (by rfl)
theorem sp_Pad_isReadOut (hP : PadAt h t ss cn pl k r n) (hl : pl ≤ 1000) : Sp xs m_Pad_isReadOut [vR t] h (some (vI (bp (cn ≤ pl)))) h := by
  obtain ⟨p1, p2, p3, p4, p5, p6, p7⟩ := id hP
  refine en_Pad_isReadOut ?_
  refine r_aload_n cd_Pad_isReadOut_0 rfl ?_
  refine r_getfield cd_Pad_isReadOut_1 hP.1 rfl ?_
  refine r_aload_n cd_Pad_isReadOut_4 rfl ?_
  refine r_getfield cd_Pad_isReadOut_5 hP.1 rfl ?_
  refine r_icmp_lt cd_Pad_isReadOut_8 ⟨by omega, by omega⟩ ⟨by omega, by omega⟩ (fun c_8 => ?_) (fun c_8 => ?_)
  · skip
    refine r_iconst cd_Pad_isReadOut_15 ?_
    exact r_zret cd_Pad_isReadOut_16 rt_Pad_isReadOut (by (unfold bp; split <;> first | rfl | omega)) (by rfl)
  · skip
    refine r_iconst cd_Pad_isReadOut_11 ?_
    refine r_goto cd_Pad_isReadOut_12 ?_
    exact r_zret cd_Pad_isReadOut_16 rt_Pad_isReadOut (by (unfold bp; split <;> first | rfl | omega)) (by rfl)
theorem r_zretc {xs : List Int} {m pc np a b : Nat} {c x z : Int} {ls : List MV} {h h' : MH} (hc : code_ m pc = some (.ireturn, np, a, b, c)) (hr : retM m = some .boolean) (hz : z = 0 ∨ z = 1) (he : x = z) (hh : h = h') : Rn xs m pc ls [vI x] h (some (vI z)) h' := by
  have e : bp (z = 1) = z := by
    rcases hz with rfl | rfl
    · exact bp_f (by decide)
    · exact bp_t rfl
  have q := r_zret (xs := xs) (ls := ls) (P := z = 1) hc hr (he.trans e.symm) hh
  rw [e] at q
  exact q
theorem sp_Pad_add_f {s : Int} (hP : PadAt h t ss cn pl k r n) (hc : cn = 60) : Sp xs m_Pad_add [vR t, vI s] h (some (vI 0)) h := by
  obtain ⟨p1, p2, p3, p4, p5, p6, p7⟩ := id hP
  refine en_Pad_add ?_
  refine r_aload_n cd_Pad_add_0 rfl ?_
  refine r_getfield cd_Pad_add_1 hP.1 rfl ?_
  refine r_if_lt cd_Pad_add_4 ⟨by omega, by omega⟩ (fun c_4 => ?_) (fun c_4 => ?_)
  · skip
    refine r_iconst cd_Pad_add_19 ?_
    exact r_zretc cd_Pad_add_20 rt_Pad_add (by decide) (by first | rfl | omega | (split <;> first | rfl | omega)) (by rfl)
  · skip
    refine r_aload_n cd_Pad_add_7 rfl ?_
    refine r_getfield cd_Pad_add_8 hP.1 rfl ?_
    refine r_aload_n cd_Pad_add_11 rfl ?_
    refine r_getfield cd_Pad_add_12 hP.1 rfl ?_
    refine r_arraylength (N := 60) cd_Pad_add_15 hP.2.1 (by rw [hP.2.2.1]; rfl) ?_
    refine r_icmp_lt cd_Pad_add_16 ⟨by omega, by omega⟩ ⟨by omega, by omega⟩ (fun c_16 => ?_) (fun c_16 => ?_)
    · skip
      omega
    · skip
      refine r_iconst cd_Pad_add_19 ?_
      exact r_zretc cd_Pad_add_20 rt_Pad_add (by decide) (by first | rfl | omega | (split <;> first | rfl | omega)) (by rfl)
theorem sp_Pad_add_t {s : Int} (hP : PadAt h t ss cn pl k r n) (hc : cn < 60) : Sp xs m_Pad_add [vR t, vI s] h (some (vI 1)) ((h.set (t + 1) (.inr (0, ss.set cn.toNat s))).set t (pobj t (cn + 1) pl k r n)) := by
  obtain ⟨p1, p2, p3, p4, p5, p6, p7⟩ := id hP
  refine en_Pad_add ?_
  refine r_aload_n cd_Pad_add_0 rfl ?_
  refine r_getfield cd_Pad_add_1 hP.1 rfl ?_
  refine r_if_lt cd_Pad_add_4 ⟨by omega, by omega⟩ (fun c_4 => ?_) (fun c_4 => ?_)
  · skip
    omega
  · skip
    refine r_aload_n cd_Pad_add_7 rfl ?_
    refine r_getfield cd_Pad_add_8 hP.1 rfl ?_
    refine r_aload_n cd_Pad_add_11 rfl ?_
    refine r_getfield cd_Pad_add_12 hP.1 rfl ?_
    refine r_arraylength (N := 60) cd_Pad_add_15 hP.2.1 (by rw [hP.2.2.1]; rfl) ?_
    refine r_icmp_lt cd_Pad_add_16 ⟨by omega, by omega⟩ ⟨by omega, by omega⟩ (fun c_16 => ?_) (fun c_16 => ?_)
    · skip
      refine r_aload_n cd_Pad_add_21 rfl ?_
      refine r_getfield cd_Pad_add_22 hP.1 rfl ?_
      refine r_aload_n cd_Pad_add_25 rfl ?_
      refine r_getfield cd_Pad_add_26 hP.1 rfl ?_
      refine r_iload_n cd_Pad_add_29 rfl ?_
      refine r_iastore (N := 60) cd_Pad_add_30 hP.2.1 (by rw [hP.2.2.1]; rfl) (by omega) (by omega) (by omega) ?_
      refine r_aload_n cd_Pad_add_31 rfl ?_
      refine r_dup cd_Pad_add_32 rfl ?_
      refine r_getfield cd_Pad_add_33 (gs_ne (by omega) hP.1) rfl ?_
      refine r_iconst cd_Pad_add_36 ?_
      refine r_iadd cd_Pad_add_37 ?_
      refine r_putfield cd_Pad_add_38 (gs_ne (by omega) hP.1) (Nat.le_of_ble_eq_true rfl) rfl ?_
      refine r_iconst cd_Pad_add_41 ?_
      exact r_zretc cd_Pad_add_42 rt_Pad_add (by decide) (by first | rfl | omega | (split <;> first | rfl | omega)) (by rfl)
    · skip
      omega
theorem sp_nextSign (hP : PadAt h t ss cn pl k r n) (hl : pl ≤ 1000) : Sp xs m_Pad_nextSign [vR t] h (some (vI (sg ss cn pl))) h := by
  obtain ⟨p1, p2, p3, p4, p5, p6, p7⟩ := id hP
  refine en_Pad_nextSign ?_
  refine r_aload_n cd_Pad_nextSign_0 rfl ?_
  refine r_getfield cd_Pad_nextSign_1 hP.1 rfl ?_
  refine r_if_lt cd_Pad_nextSign_4 ⟨by omega, by omega⟩ (fun c_4 => ?_) (fun c_4 => ?_)
  · skip
    refine r_iconst cd_Pad_nextSign_42 ?_
    exact r_iret cd_Pad_nextSign_43 rt_Pad_nextSign (by (unfold sg; first | (rw [if_pos c_15]; done) | (rw [if_neg (by omega)]; done))) (by rfl)
  · skip
    refine r_aload_n cd_Pad_nextSign_7 rfl ?_
    refine r_getfield cd_Pad_nextSign_8 hP.1 rfl ?_
    refine r_aload_n cd_Pad_nextSign_11 rfl ?_
    refine r_getfield cd_Pad_nextSign_12 hP.1 rfl ?_
    refine r_icmp_ge cd_Pad_nextSign_15 ⟨by omega, by omega⟩ ⟨by omega, by omega⟩ (fun c_15 => ?_) (fun c_15 => ?_)
    · skip
      refine r_iconst cd_Pad_nextSign_42 ?_
      exact r_iret cd_Pad_nextSign_43 rt_Pad_nextSign (by (unfold sg; first | (rw [if_pos c_15]; done) | (rw [if_neg (by omega)]; done))) (by rfl)
    · skip
      refine r_aload_n cd_Pad_nextSign_18 rfl ?_
      refine r_getfield cd_Pad_nextSign_19 hP.1 rfl ?_
      refine r_aload_n cd_Pad_nextSign_22 rfl ?_
      refine r_getfield cd_Pad_nextSign_23 hP.1 rfl ?_
      refine r_arraylength (N := 60) cd_Pad_nextSign_26 hP.2.1 (by rw [hP.2.2.1]; rfl) ?_
      refine r_icmp_ge cd_Pad_nextSign_27 ⟨by omega, by omega⟩ ⟨by omega, by omega⟩ (fun c_27 => ?_) (fun c_27 => ?_)
      · skip
        refine r_iconst cd_Pad_nextSign_42 ?_
        exact r_iret cd_Pad_nextSign_43 rt_Pad_nextSign (by (unfold sg; first | (rw [if_pos c_15]; done) | (rw [if_neg (by omega)]; done))) (by rfl)
      · skip
        refine r_aload_n cd_Pad_nextSign_30 rfl ?_
        refine r_getfield cd_Pad_nextSign_31 hP.1 rfl ?_
        refine r_aload_n cd_Pad_nextSign_34 rfl ?_
        refine r_getfield cd_Pad_nextSign_35 hP.1 rfl ?_
        refine r_iaload (N := 60) cd_Pad_nextSign_38 hP.2.1 (by rw [hP.2.2.1]; rfl) (by omega) (by omega) (by omega) ?_
        refine r_goto cd_Pad_nextSign_39 ?_
        exact r_iret cd_Pad_nextSign_43 rt_Pad_nextSign (by (unfold sg; first | (rw [if_pos c_15]; done) | (rw [if_neg (by omega)]; done))) (by rfl)
theorem sp_takes_t {s kd : Int} (hP : PadAt h t ss cn pl k r n) (hl : pl ≤ 1000) (hs : inR s) (e : sg ss cn pl = s) : Sp xs m_Pad_takes [vR t, vI s, vI kd] h (some (vI 1)) (h.set t (pobj t cn (pl + 1) kd r n)) := by
  obtain ⟨p1, p2, p3, p4, p5, p6, p7⟩ := id hP
  obtain ⟨s1, s2⟩ := hs
  have sb := sg_bd hP p6
  refine en_Pad_takes ?_
  refine r_aload_n cd_Pad_takes_0 rfl ?_
  refine r_vv0 cd_Pad_takes_1 rfl ck_Pad_takes_Pad_nextSign (Nat.le_of_ble_eq_true rfl) hP.1 rfl (sp_nextSign hP hl) ?_
  refine r_iload_n cd_Pad_takes_4 rfl ?_
  refine r_icmp_eq cd_Pad_takes_5 ⟨by omega, by omega⟩ ⟨by omega, by omega⟩ (fun c_5 => ?_) (fun c_5 => ?_)
  · skip
    refine r_aload_n cd_Pad_takes_10 rfl ?_
    refine r_iload_n cd_Pad_takes_11 rfl ?_
    refine r_putfield cd_Pad_takes_12 hP.1 (Nat.le_of_ble_eq_true rfl) rfl ?_
    refine r_aload_n cd_Pad_takes_15 rfl ?_
    refine r_dup cd_Pad_takes_16 rfl ?_
    refine r_getfield cd_Pad_takes_17 (gs_eq hP.1) rfl ?_
    refine r_iconst cd_Pad_takes_20 ?_
    refine r_iadd cd_Pad_takes_21 ?_
    refine r_putfield cd_Pad_takes_22 (gs_eq hP.1) (Nat.le_of_ble_eq_true rfl) rfl ?_
    refine r_iconst cd_Pad_takes_25 ?_
    exact r_zretc cd_Pad_takes_26 rt_Pad_takes (by decide) (by first | rfl | omega | (split <;> first | rfl | omega)) (by rw [List.set_set]; rfl)
  · skip
    exact absurd e c_5
theorem sp_takes_f {s kd : Int} (hP : PadAt h t ss cn pl k r n) (hl : pl ≤ 1000) (hs : inR s) (e : sg ss cn pl ≠ s) : Sp xs m_Pad_takes [vR t, vI s, vI kd] h (some (vI 0)) h := by
  obtain ⟨p1, p2, p3, p4, p5, p6, p7⟩ := id hP
  obtain ⟨s1, s2⟩ := hs
  have sb := sg_bd hP p6
  refine en_Pad_takes ?_
  refine r_aload_n cd_Pad_takes_0 rfl ?_
  refine r_vv0 cd_Pad_takes_1 rfl ck_Pad_takes_Pad_nextSign (Nat.le_of_ble_eq_true rfl) hP.1 rfl (sp_nextSign hP hl) ?_
  refine r_iload_n cd_Pad_takes_4 rfl ?_
  refine r_icmp_eq cd_Pad_takes_5 ⟨by omega, by omega⟩ ⟨by omega, by omega⟩ (fun c_5 => ?_) (fun c_5 => ?_)
  · skip
    exact absurd c_5 e
  · skip
    refine r_iconst cd_Pad_takes_8 ?_
    exact r_zretc cd_Pad_takes_9 rt_Pad_takes (by decide) (by first | rfl | omega | (split <;> first | rfl | omega)) (by rfl)
theorem sp_takesRod_t (hP : PadAt h t ss cn pl k r n) (hl : pl ≤ 1000) (e : 0 ≤ sg ss cn pl - 97 ∧ sg ss cn pl - 97 < 8) : Sp xs m_Pad_takesRod [vR t] h (some (vI 1)) (h.set t (pobj t cn (pl + 1) k (sg ss cn pl - 97) n)) := by
  obtain ⟨p1, p2, p3, p4, p5, p6, p7⟩ := id hP
  have sb := sg_bd hP p6
  refine en_Pad_takesRod ?_
  refine r_aload_n cd_Pad_takesRod_0 rfl ?_
  refine r_vv0 cd_Pad_takesRod_1 rfl ck_Pad_takesRod_Pad_nextSign (Nat.le_of_ble_eq_true rfl) hP.1 rfl (sp_nextSign hP hl) ?_
  refine r_bipush cd_Pad_takesRod_4 ?_
  refine r_isub cd_Pad_takesRod_6 ?_
  refine r_istoren2_1 cd_Pad_takesRod_7 rfl ?_
  refine r_iload_n cd_Pad_takesRod_8 rfl ?_
  refine r_cv1 cd_Pad_takesRod_9 rfl ck_Pad_takesRod_Rods_isRod rfl (Nat.le_of_ble_eq_true rfl) (sp_Rods_isRod ⟨by omega, by omega⟩) ?_
  refine r_ifne_p cd_Pad_takesRod_12 (fun c_12 => ?_) (fun c_12 => ?_)
  · skip
    refine r_aload_n cd_Pad_takesRod_17 rfl ?_
    refine r_iload_n cd_Pad_takesRod_18 rfl ?_
    refine r_putfield cd_Pad_takesRod_19 hP.1 (Nat.le_of_ble_eq_true rfl) rfl ?_
    refine r_aload_n cd_Pad_takesRod_22 rfl ?_
    refine r_dup cd_Pad_takesRod_23 rfl ?_
    refine r_getfield cd_Pad_takesRod_24 (gs_eq hP.1) rfl ?_
    refine r_iconst cd_Pad_takesRod_27 ?_
    refine r_iadd cd_Pad_takesRod_28 ?_
    refine r_putfield cd_Pad_takesRod_29 (gs_eq hP.1) (Nat.le_of_ble_eq_true rfl) rfl ?_
    refine r_iconst cd_Pad_takesRod_32 ?_
    exact r_zretc cd_Pad_takesRod_33 rt_Pad_takesRod (by decide) (by first | rfl | omega | (split <;> first | rfl | omega)) (by rw [List.set_set]; rfl)
  · skip
    exact absurd e c_12
theorem sp_takesRod_f (hP : PadAt h t ss cn pl k r n) (hl : pl ≤ 1000) (e : ¬ (0 ≤ sg ss cn pl - 97 ∧ sg ss cn pl - 97 < 8)) : Sp xs m_Pad_takesRod [vR t] h (some (vI 0)) h := by
  obtain ⟨p1, p2, p3, p4, p5, p6, p7⟩ := id hP
  have sb := sg_bd hP p6
  refine en_Pad_takesRod ?_
  refine r_aload_n cd_Pad_takesRod_0 rfl ?_
  refine r_vv0 cd_Pad_takesRod_1 rfl ck_Pad_takesRod_Pad_nextSign (Nat.le_of_ble_eq_true rfl) hP.1 rfl (sp_nextSign hP hl) ?_
  refine r_bipush cd_Pad_takesRod_4 ?_
  refine r_isub cd_Pad_takesRod_6 ?_
  refine r_istoren2_1 cd_Pad_takesRod_7 rfl ?_
  refine r_iload_n cd_Pad_takesRod_8 rfl ?_
  refine r_cv1 cd_Pad_takesRod_9 rfl ck_Pad_takesRod_Rods_isRod rfl (Nat.le_of_ble_eq_true rfl) (sp_Rods_isRod ⟨by omega, by omega⟩) ?_
  refine r_ifne_p cd_Pad_takesRod_12 (fun c_12 => ?_) (fun c_12 => ?_)
  · skip
    exact absurd c_12 e
  · skip
    refine r_iconst cd_Pad_takesRod_15 ?_
    exact r_zretc cd_Pad_takesRod_16 rt_Pad_takesRod (by decide) (by first | rfl | omega | (split <;> first | rfl | omega)) (by rfl)
theorem sp_takesDigit_t {lo hi : Int} (hP : PadAt h t ss cn pl k r n) (hl : pl ≤ 1000) (h2 : inR lo) (h3 : inR hi) (e : lo ≤ sg ss cn pl - 48 ∧ sg ss cn pl - 48 ≤ hi) : Sp xs m_Pad_takesDigit [vR t, vI lo, vI hi] h (some (vI 1)) (h.set t (pobj t cn (pl + 1) k r (sg ss cn pl - 48))) := by
  obtain ⟨p1, p2, p3, p4, p5, p6, p7⟩ := id hP
  have sb := sg_bd hP p6
  refine en_Pad_takesDigit ?_
  refine r_aload_n cd_Pad_takesDigit_0 rfl ?_
  refine r_vv0 cd_Pad_takesDigit_1 rfl ck_Pad_takesDigit_Pad_nextSign (Nat.le_of_ble_eq_true rfl) hP.1 rfl (sp_nextSign hP hl) ?_
  refine r_bipush cd_Pad_takesDigit_4 ?_
  refine r_isub cd_Pad_takesDigit_6 ?_
  refine r_istoren4_3 cd_Pad_takesDigit_7 rfl ?_
  refine r_iload_n cd_Pad_takesDigit_8 rfl ?_
  refine r_iload_n cd_Pad_takesDigit_9 rfl ?_
  refine r_iload_n cd_Pad_takesDigit_10 rfl ?_
  refine r_cv3 cd_Pad_takesDigit_11 rfl ck_Pad_takesDigit_F_isWithin rfl (Nat.le_of_ble_eq_true rfl) (sp_isWithin ⟨by omega, by omega⟩ h2 h3) ?_
  refine r_ifne_p cd_Pad_takesDigit_14 (fun c_14 => ?_) (fun c_14 => ?_)
  · skip
    refine r_aload_n cd_Pad_takesDigit_19 rfl ?_
    refine r_iload_n cd_Pad_takesDigit_20 rfl ?_
    refine r_putfield cd_Pad_takesDigit_21 hP.1 (Nat.le_of_ble_eq_true rfl) rfl ?_
    refine r_aload_n cd_Pad_takesDigit_24 rfl ?_
    refine r_dup cd_Pad_takesDigit_25 rfl ?_
    refine r_getfield cd_Pad_takesDigit_26 (gs_eq hP.1) rfl ?_
    refine r_iconst cd_Pad_takesDigit_29 ?_
    refine r_iadd cd_Pad_takesDigit_30 ?_
    refine r_putfield cd_Pad_takesDigit_31 (gs_eq hP.1) (Nat.le_of_ble_eq_true rfl) rfl ?_
    refine r_iconst cd_Pad_takesDigit_34 ?_
    exact r_zretc cd_Pad_takesDigit_35 rt_Pad_takesDigit (by decide) (by first | rfl | omega | (split <;> first | rfl | omega)) (by rw [List.set_set]; rfl)
  · skip
    exact absurd e c_14
theorem sp_takesDigit_f {lo hi : Int} (hP : PadAt h t ss cn pl k r n) (hl : pl ≤ 1000) (h2 : inR lo) (h3 : inR hi) (e : ¬ (lo ≤ sg ss cn pl - 48 ∧ sg ss cn pl - 48 ≤ hi)) : Sp xs m_Pad_takesDigit [vR t, vI lo, vI hi] h (some (vI 0)) h := by
  obtain ⟨p1, p2, p3, p4, p5, p6, p7⟩ := id hP
  have sb := sg_bd hP p6
  refine en_Pad_takesDigit ?_
  refine r_aload_n cd_Pad_takesDigit_0 rfl ?_
  refine r_vv0 cd_Pad_takesDigit_1 rfl ck_Pad_takesDigit_Pad_nextSign (Nat.le_of_ble_eq_true rfl) hP.1 rfl (sp_nextSign hP hl) ?_
  refine r_bipush cd_Pad_takesDigit_4 ?_
  refine r_isub cd_Pad_takesDigit_6 ?_
  refine r_istoren4_3 cd_Pad_takesDigit_7 rfl ?_
  refine r_iload_n cd_Pad_takesDigit_8 rfl ?_
  refine r_iload_n cd_Pad_takesDigit_9 rfl ?_
  refine r_iload_n cd_Pad_takesDigit_10 rfl ?_
  refine r_cv3 cd_Pad_takesDigit_11 rfl ck_Pad_takesDigit_F_isWithin rfl (Nat.le_of_ble_eq_true rfl) (sp_isWithin ⟨by omega, by omega⟩ h2 h3) ?_
  refine r_ifne_p cd_Pad_takesDigit_14 (fun c_14 => ?_) (fun c_14 => ?_)
  · skip
    exact absurd c_14 e
  · skip
    refine r_iconst cd_Pad_takesDigit_17 ?_
    exact r_zretc cd_Pad_takesDigit_18 rt_Pad_takesDigit (by decide) (by first | rfl | omega | (split <;> first | rfl | omega)) (by rfl)
end C37
