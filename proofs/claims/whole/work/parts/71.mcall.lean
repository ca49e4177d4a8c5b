-- the reference: calls on evenings, and those that look at the ball
section C71
variable {xs : List Int} {c : Nat → HC} {mn mc sm om ga mr ma ax : Int} {b v sv dv fa gr ng wy im kp : List Int}
theorem sp_M_goE {p : Int} (hJ : JL v fa gr ng wy) (hw : WF b) (hp0 : PdOK dv mc p) (k r n : Int) (hf : at_ (fa0 dv mc k r n) 0 = -6) : ∃ sm' om' mr' ax', (at_ (ev0 b dv mc k r n).2.1 1 ≠ -6 → mr' = at_ (ev0 b dv mc k r n).2.1 2) ∧ Sp xs m_M_goEvenings [vR 40] (z40 c (rf mn mc sm om ga mr ma ax b v sv dv fa gr ng wy im kp)) (some (vI (at_ (ev0 b dv mc k r n).2.1 1))) (z40 c (rf mn mc sm' om' (at_ (ev0 b dv mc k r n).2.1 3) mr' (at_ (ev0 b dv mc k r n).2.1 0) ax' b ((ev0 b dv mc k r n).1) sv dv fa gr ng wy im kp)) := by
  obtain ⟨p1, p2, p3, p4, p5⟩ := id hp0
  obtain ⟨sm', om', mr', ax', hc, e9⟩ := lp_M_go (xs := xs) (mn := mn) (mc := mc) (dv := dv) 60 0 (at_ (fa0 dv mc k r n) 2) (at_ (fa0 dv mc k r n) 3) (at_ (fa0 dv mc k r n) 4) 0 (-6) mr sm om b (z40 c (rf mn mc sm om (-6) mr 0 0 b b sv dv fa gr ng wy im kp)) vU zr_O zr_N zr_D hw ⟨p1, p2, p3, by omega, p5⟩ (by omega) (by omega) (by omega) (by omega) (Or.inl rfl) (by omega) ((faA_k dv mc 60 0 _ _ _ k r n).trans hf)
  refine ⟨sm', om', mr', ax', hc, ?_⟩
  have e8 : Rn xs m_M_goEvenings 14 [vR 40, vU] [] (z40 c (rf mn mc sm om (-6) mr 0 0 b b sv dv fa gr ng wy im kp)) (some (vI (at_ (ev0 b dv mc k r n).2.1 1))) (z40 c (rf mn mc sm' om' (at_ (ev0 b dv mc k r n).2.1 3) mr' (at_ (ev0 b dv mc k r n).2.1 0) ax' b ((ev0 b dv mc k r n).1) sv dv fa gr ng wy im kp)) := e9
  have sA : Sp xs m_M_asNow [vR 40] (z40 c (rf mn mc sm om ga mr ma ax b v sv dv fa gr ng wy im kp)) none (z40 c (rf mn mc sm om (-6) mr ma ax b b sv dv fa gr ng wy im kp)) := sp_asN hw.1 hJ.1
  refine en_M_goEvenings ?_
  refine r_aload_n cd_M_goEvenings_0 rfl ?_
  refine r_vz0 cd_M_goEvenings_1 rfl ck_M_goEvenings_M_asNow (Nat.le_of_ble_eq_true rfl) zr_O rfl sA ?_
  skip
  refine r_aload_n cd_M_goEvenings_4 rfl ?_
  refine r_iconst cd_M_goEvenings_5 ?_
  refine r_putfield cd_M_goEvenings_6 zr_O (Nat.le_of_ble_eq_true rfl) rfl ?_
  refine r_aload_n cd_M_goEvenings_9 rfl ?_
  refine r_iconst cd_M_goEvenings_10 ?_
  refine r_putfield cd_M_goEvenings_11 (gs_eq zr_O) (Nat.le_of_ble_eq_true rfl) rfl ?_
  exact e8
theorem evA_re : ∀ (f : Nat) (pl k r n : Int) (w : List Int) (ac fg : Int), 0 ≤ ac → at_ (evA dv mc f pl k r n w ac fg).2.1 1 = -6 → at_ (evA dv mc f pl k r n w ac fg).2.1 2 = -6
  | 0, pl, k, r, n, w, ac, fg, h, _ => rfl
  | f + 1, pl, k, r, n, w, ac, fg, h, e => by
    unfold evA at e ⊢
    by_cases z0 : mc ≤ pl
    · rw [if_pos z0]; rfl
    rw [if_neg z0] at e ⊢
    by_cases z1 : why w (at_ (rdq dv mc pl k) 2) (at_ (rdq dv mc pl k) 3) (at_ (rdq dv mc pl k) 4) ≠ 0
    · rw [if_pos z1] at e
      exact absurd e (by show ac ≠ -6; omega)
    · rw [if_neg z1] at e ⊢
      exact evA_re f _ _ _ _ _ _ _ (by omega) e
theorem ev_re {k r n : Int} (e : at_ (ev0 b dv mc k r n).2.1 1 = -6) : at_ (ev0 b dv mc k r n).2.1 2 = -6 := evA_re 60 0 _ _ _ b 0 (-6) (by omega) e
theorem sp_M_judge {p what : Int} (hJ : JL v fa gr ng wy) (hw : WF b) (hp0 : PdOK dv mc p) (hx : inR what) (k r n : Int) : MSp xs m_M_judge [vR 40, vI what] (z40 c (rf mn mc sm om ga mr ma ax b v sv dv fa gr ng wy im kp)) (vI (jdA b dv mc k r n what)) c mn mc b sv dv im kp := by
  obtain ⟨x1, x2⟩ := id hx
  have hfb := fa0_bd (ss := dv) (cn := mc) (k := k) (r := r) (n := n)
  by_cases z0 : what = 0 ∨ what = 1
  · by_cases z1 : at_ (fa0 dv mc k r n) 0 = -6
    · obtain ⟨sm', om', mr', ax', hc, hS⟩ := sp_M_goE (xs := xs) (c := c) (mn := mn) (sm := sm) (om := om) (ga := ga) (mr := mr) (ma := ma) (ax := ax) (sv := sv) (im := im) (kp := kp) hJ hw hp0 k r n z1
      have hev := ev_ok (w := b) (ss := dv) (cn := mc) (pk := k) (pr := r) (pn := n) hw z1
      have hst := ev_st (w := b) (ss := dv) (cn := mc) (pk := k) (pr := r) (pn := n) hw z1
      refine ⟨(z40 c (rf mn mc sm' om' (at_ (ev0 b dv mc k r n).2.1 3) mr' (at_ (ev0 b dv mc k r n).2.1 0) ax' b ((ev0 b dv mc k r n).1) sv dv fa gr ng wy im kp)), mj (jl_v hJ hev.1.1), ?_⟩
      unfold jdA
      rw [if_pos z0, if_pos z1]
      have hre := ev_re (b := b) (dv := dv) (mc := mc) (k := k) (r := r) (n := n)
      refine en_M_judge ?_
      refine r_iload_n cd_M_judge_0 rfl ?_
      refine r_iconst cd_M_judge_1 ?_
      refine r_iconst cd_M_judge_2 ?_
      refine r_cv3 cd_M_judge_3 rfl ck_M_judge_M_in rfl (Nat.le_of_ble_eq_true rfl) (sp_M_in hx ⟨by decide, by decide⟩ ⟨by decide, by decide⟩) ?_
      refine r_ifne_p cd_M_judge_6 (fun c_6 => ?_) (fun c_6 => ?_)
      · skip
        refine r_aload_n cd_M_judge_12 rfl ?_
        refine r_vv0 cd_M_judge_13 rfl ck_M_judge_M_faultOf (Nat.le_of_ble_eq_true rfl) zr_O rfl (sp_M_faultOf zr_O zr_D hp0 k r n) ?_
        refine r_if_lt cd_M_judge_16 ⟨by omega, by omega⟩ (fun c_16 => ?_) (fun c_16 => ?_)
        · skip
          refine r_aload_n cd_M_judge_22 rfl ?_
          refine r_vv0 cd_M_judge_23 rfl ck_M_judge_M_goEvenings (Nat.le_of_ble_eq_true rfl) zr_O rfl hS ?_
          refine r_istoren3_2 cd_M_judge_26 rfl ?_
          refine r_iload_n cd_M_judge_27 rfl ?_
          refine r_if_lt cd_M_judge_28 ⟨by omega, by omega⟩ (fun c_28 => ?_) (fun c_28 => ?_)
          · skip
            refine r_iload_n cd_M_judge_35 rfl ?_
            refine r_goto cd_M_judge_36 ?_
            exact r_iret cd_M_judge_43 rt_M_judge (by first | (rw [if_pos (by omega)]; done) | (rw [if_neg (by omega)]; exact hc (by omega)) | (split <;> first | rfl | (have := hre (by omega); omega))) (by rfl)
          · skip
            refine r_iload_n cd_M_judge_31 rfl ?_
            refine r_if_ne cd_M_judge_32 ⟨by omega, by omega⟩ (fun c_32 => ?_) (fun c_32 => ?_)
            · skip
              refine r_aload_n cd_M_judge_39 rfl ?_
              refine r_getfield cd_M_judge_40 zr_O rfl ?_
              exact r_iret cd_M_judge_43 rt_M_judge (by first | (rw [if_pos (by omega)]; done) | (rw [if_neg (by omega)]; exact hc (by omega)) | (split <;> first | rfl | (have := hre (by omega); omega))) (by rfl)
            · skip
              refine r_iload_n cd_M_judge_35 rfl ?_
              refine r_goto cd_M_judge_36 ?_
              exact r_iret cd_M_judge_43 rt_M_judge (by first | (rw [if_pos (by omega)]; done) | (rw [if_neg (by omega)]; exact hc (by omega)) | (split <;> first | rfl | (have := hre (by omega); omega))) (by rfl)
        · skip
          omega
      · skip
        omega
    · refine ⟨(z40 c (rf mn mc sm om ga mr ma ax b v sv dv fa gr ng wy im kp)), mj hJ, ?_⟩
      unfold jdA
      rw [if_pos z0, if_neg z1]
      refine en_M_judge ?_
      refine r_iload_n cd_M_judge_0 rfl ?_
      refine r_iconst cd_M_judge_1 ?_
      refine r_iconst cd_M_judge_2 ?_
      refine r_cv3 cd_M_judge_3 rfl ck_M_judge_M_in rfl (Nat.le_of_ble_eq_true rfl) (sp_M_in hx ⟨by decide, by decide⟩ ⟨by decide, by decide⟩) ?_
      refine r_ifne_p cd_M_judge_6 (fun c_6 => ?_) (fun c_6 => ?_)
      · skip
        refine r_aload_n cd_M_judge_12 rfl ?_
        refine r_vv0 cd_M_judge_13 rfl ck_M_judge_M_faultOf (Nat.le_of_ble_eq_true rfl) zr_O rfl (sp_M_faultOf zr_O zr_D hp0 k r n) ?_
        refine r_if_lt cd_M_judge_16 ⟨by omega, by omega⟩ (fun c_16 => ?_) (fun c_16 => ?_)
        · skip
          omega
        · skip
          refine r_bipush cd_M_judge_19 ?_
          exact r_iret cd_M_judge_21 rt_M_judge (by rfl) (by rfl)
      · skip
        omega
  · refine ⟨(z40 c (rf mn mc sm om ga mr ma ax b v sv dv fa gr ng wy im kp)), mj hJ, ?_⟩
    unfold jdA
    rw [if_neg z0]
    refine en_M_judge ?_
    refine r_iload_n cd_M_judge_0 rfl ?_
    refine r_iconst cd_M_judge_1 ?_
    refine r_iconst cd_M_judge_2 ?_
    refine r_cv3 cd_M_judge_3 rfl ck_M_judge_M_in rfl (Nat.le_of_ble_eq_true rfl) (sp_M_in hx ⟨by decide, by decide⟩ ⟨by decide, by decide⟩) ?_
    refine r_ifne_p cd_M_judge_6 (fun c_6 => ?_) (fun c_6 => ?_)
    · skip
      omega
    · skip
      refine r_bipush cd_M_judge_9 ?_
      exact r_iret cd_M_judge_11 rt_M_judge (by rfl) (by rfl)
theorem sp_bar_y {p : Int} (hJ : JL v fa gr ng wy) (hw : WF b) (hp0 : PdOK dv mc p) (k r n : Int) (h0 : okE b dv mc k r n) : ∃ sm' om' mr' ax', Sp xs m_M_barOfEvenings [vR 40] (z40 c (rf mn mc sm om ga mr ma ax b v sv dv fa gr ng wy im kp)) (some (vI 0)) (z40 c (rf mn mc sm' om' (at_ (ev0 b dv mc k r n).2.1 3) mr' (at_ (ev0 b dv mc k r n).2.1 0) ax' b ((ev0 b dv mc k r n).1) sv dv fa gr ng wy im kp)) := by
  obtain ⟨z1, z2⟩ := h0
  obtain ⟨sm', om', mr', ax', hc, hS⟩ := sp_M_goE (xs := xs) (c := c) (mn := mn) (sm := sm) (om := om) (ga := ga) (mr := mr) (ma := ma) (ax := ax) (sv := sv) (im := im) (kp := kp) hJ hw hp0 k r n z1
  refine ⟨sm', om', mr', ax', ?_⟩
  refine en_M_barOfEvenings ?_
  refine r_aload_n cd_M_barOfEvenings_0 rfl ?_
  refine r_vv0 cd_M_barOfEvenings_1 rfl ck_M_barOfEvenings_M_faultOf (Nat.le_of_ble_eq_true rfl) zr_O rfl (sp_M_faultOf zr_O zr_D hp0 k r n) ?_
  refine r_if_ge cd_M_barOfEvenings_4 ⟨by omega, by omega⟩ (fun c_4 => ?_) (fun c_4 => ?_)
  · skip
    omega
  · skip
    refine r_aload_n cd_M_barOfEvenings_7 rfl ?_
    refine r_vv0 cd_M_barOfEvenings_8 rfl ck_M_barOfEvenings_M_goEvenings (Nat.le_of_ble_eq_true rfl) zr_O rfl hS ?_
    refine r_if_lt cd_M_barOfEvenings_11 ⟨by omega, by omega⟩ (fun c_11 => ?_) (fun c_11 => ?_)
    · skip
      refine r_iconst cd_M_barOfEvenings_19 ?_
      exact r_iret cd_M_barOfEvenings_20 rt_M_barOfEvenings (by rfl) (by rfl)
    · skip
      omega
theorem sp_bar_n {p : Int} (hJ : JL v fa gr ng wy) (hw : WF b) (hp0 : PdOK dv mc p) (k r n : Int) (h0 : ¬ okE b dv mc k r n) : MSp xs m_M_barOfEvenings [vR 40] (z40 c (rf mn mc sm om ga mr ma ax b v sv dv fa gr ng wy im kp)) (vI (-5)) c mn mc b sv dv im kp := by
  have hfb := fa0_bd (ss := dv) (cn := mc) (k := k) (r := r) (n := n)
  by_cases z1 : at_ (fa0 dv mc k r n) 0 = -6
  · have z2 : at_ (ev0 b dv mc k r n).2.1 1 ≠ -6 := fun q => h0 ⟨z1, q⟩
    obtain ⟨sm', om', mr', ax', hc, hS⟩ := sp_M_goE (xs := xs) (c := c) (mn := mn) (sm := sm) (om := om) (ga := ga) (mr := mr) (ma := ma) (ax := ax) (sv := sv) (im := im) (kp := kp) hJ hw hp0 k r n z1
    have hev := ev_ok (w := b) (ss := dv) (cn := mc) (pk := k) (pr := r) (pn := n) hw z1
    have hst := ev_st (w := b) (ss := dv) (cn := mc) (pk := k) (pr := r) (pn := n) hw z1
    refine ⟨(z40 c (rf mn mc sm' om' (at_ (ev0 b dv mc k r n).2.1 3) mr' (at_ (ev0 b dv mc k r n).2.1 0) ax' b ((ev0 b dv mc k r n).1) sv dv fa gr ng wy im kp)), mj (jl_v hJ hev.1.1), ?_⟩
    refine en_M_barOfEvenings ?_
    refine r_aload_n cd_M_barOfEvenings_0 rfl ?_
    refine r_vv0 cd_M_barOfEvenings_1 rfl ck_M_barOfEvenings_M_faultOf (Nat.le_of_ble_eq_true rfl) zr_O rfl (sp_M_faultOf zr_O zr_D hp0 k r n) ?_
    refine r_if_ge cd_M_barOfEvenings_4 ⟨by omega, by omega⟩ (fun c_4 => ?_) (fun c_4 => ?_)
    · skip
      refine r_bipush cd_M_barOfEvenings_14 ?_
      refine r_goto cd_M_barOfEvenings_16 ?_
      exact r_iret cd_M_barOfEvenings_20 rt_M_barOfEvenings (by rfl) (by first | rfl | omega)
    · skip
      refine r_aload_n cd_M_barOfEvenings_7 rfl ?_
      refine r_vv0 cd_M_barOfEvenings_8 rfl ck_M_barOfEvenings_M_goEvenings (Nat.le_of_ble_eq_true rfl) zr_O rfl hS ?_
      refine r_if_lt cd_M_barOfEvenings_11 ⟨by omega, by omega⟩ (fun c_11 => ?_) (fun c_11 => ?_)
      · skip
        omega
      · skip
        refine r_bipush cd_M_barOfEvenings_14 ?_
        refine r_goto cd_M_barOfEvenings_16 ?_
        exact r_iret cd_M_barOfEvenings_20 rt_M_barOfEvenings (by rfl) (by first | rfl | omega)
  · refine ⟨(z40 c (rf mn mc sm om ga mr ma ax b v sv dv fa gr ng wy im kp)), mj hJ, ?_⟩
    refine en_M_barOfEvenings ?_
    refine r_aload_n cd_M_barOfEvenings_0 rfl ?_
    refine r_vv0 cd_M_barOfEvenings_1 rfl ck_M_barOfEvenings_M_faultOf (Nat.le_of_ble_eq_true rfl) zr_O rfl (sp_M_faultOf zr_O zr_D hp0 k r n) ?_
    refine r_if_ge cd_M_barOfEvenings_4 ⟨by omega, by omega⟩ (fun c_4 => ?_) (fun c_4 => ?_)
    · skip
      refine r_bipush cd_M_barOfEvenings_14 ?_
      refine r_goto cd_M_barOfEvenings_16 ?_
      exact r_iret cd_M_barOfEvenings_20 rt_M_barOfEvenings (by rfl) (by rfl)
    · skip
      omega
theorem lp_M_done {l : List Int} (hl : v.length = 21) : ∀ (k : Nat) (i : Int) (l : List Int), 0 ≤ i → i + k = 21 → l.length = 21 → (∀ j : Int, 0 ≤ j → j < i → at_ l j = at_ v j) → Rn xs m_M_done 12 [vR 40, vI i] [] (z40 c (rf mn mc sm om ga mr ma ax l v sv dv fa gr ng wy im kp)) (some (vI ma)) (z40 c (rf mn 0 sm om ga mr ma ax v v sv dv fa gr ng wy im kp)) := by
  have lv : ((v.length : Nat) : Int) = 21 := by rw [hl]; rfl
  intro k
  induction k with
  | zero =>
    intro i l i0 i1 hl2 e
    have : l = v := ext_at hl2 hl (fun j j0 j1 => e j j0 (by omega))
    subst this
    refine r_iload_n cd_M_done_12 rfl ?_
    refine r_bipush cd_M_done_13 ?_
    refine r_icmp_ge cd_M_done_15 ⟨by omega, by omega⟩ ⟨by decide, by decide⟩ (fun c_15 => ?_) (fun c_15 => ?_)
    · skip
      refine r_aload_n cd_M_done_36 rfl ?_
      refine r_iconst cd_M_done_37 ?_
      refine r_putfield cd_M_done_38 zr_O (Nat.le_of_ble_eq_true rfl) rfl ?_
      refine r_aload_n cd_M_done_41 rfl ?_
      refine r_getfield cd_M_done_42 (gs_eq zr_O) rfl ?_
      exact r_iret cd_M_done_45 rt_M_done (by rfl) (by rfl)
    · skip
      omega
  | succ k ih =>
    intro i l i0 i1 hl2 e
    have lb : ((l.length : Nat) : Int) = 21 := by rw [hl2]; rfl
    have e9 := ih (i + 1) (l.set i.toNat (at_ v i)) (by omega) (by omega) (by rw [List.length_set, hl2]) (cp_step i0 (by omega) e)
    refine r_iload_n cd_M_done_12 rfl ?_
    refine r_bipush cd_M_done_13 ?_
    refine r_icmp_ge cd_M_done_15 ⟨by omega, by omega⟩ ⟨by decide, by decide⟩ (fun c_15 => ?_) (fun c_15 => ?_)
    · skip
      omega
    · skip
      refine r_aload_n cd_M_done_18 rfl ?_
      refine r_getfield cd_M_done_19 zr_O rfl ?_
      refine r_iload_n cd_M_done_22 rfl ?_
      refine r_aload_n cd_M_done_23 rfl ?_
      refine r_getfield cd_M_done_24 zr_O rfl ?_
      refine r_iload_n cd_M_done_27 rfl ?_
      refine r_iaload (N := 21) cd_M_done_28 zr_N lv (by omega) (by omega) (by omega) ?_
      refine r_iastore (N := 21) cd_M_done_29 zr_B lb (by omega) (by omega) (by omega) ?_
      refine r_iinc2_1 cd_M_done_30 rfl ?_
      refine r_goto cd_M_done_33 ?_
      exact e9
theorem sp_M_done {p : Int} (hJ : JL v fa gr ng wy) (hw : WF b) (hp0 : PdOK dv mc p) (k r n : Int) : MSp xs m_M_done [vR 40] (z40 c (rf mn mc sm om ga mr ma ax b v sv dv fa gr ng wy im kp)) (vI (dnA b dv mc k r n)) c mn (dnC b dv mc k r n) (dnW b dv mc k r n) sv dv im kp := by
  by_cases z : okB b dv mc k r n = true
  · have zE := okB_iff.mp z
    have hev := ev_ok (w := b) (ss := dv) (cn := mc) (pk := k) (pr := r) (pn := n) hw zE.1
    obtain ⟨sm', om', mr', ax', hS⟩ := sp_bar_y (xs := xs) (c := c) (mn := mn) (sm := sm) (om := om) (ga := ga) (mr := mr) (ma := ma) (ax := ax) (sv := sv) (im := im) (kp := kp) hJ hw hp0 k r n zE
    unfold dnA dnW dnC
    rw [if_pos z, if_pos z, if_pos z]
    refine ⟨(z40 c (rf mn 0 sm' om' (at_ (ev0 b dv mc k r n).2.1 3) mr' (at_ (ev0 b dv mc k r n).2.1 0) ax' ((ev0 b dv mc k r n).1) ((ev0 b dv mc k r n).1) sv dv fa gr ng wy im kp)), mj (jl_v hJ hev.1.1), ?_⟩
    have e9 := lp_M_done (xs := xs) (c := c) (mn := mn) (mc := mc) (sm := sm') (om := om') (ga := at_ (ev0 b dv mc k r n).2.1 3) (mr := mr') (ma := at_ (ev0 b dv mc k r n).2.1 0) (ax := ax') (sv := sv) (dv := dv) (fa := fa) (gr := gr) (ng := ng) (wy := wy) (im := im) (kp := kp) (l := b) hev.1.1 21 0 b (by omega) (by omega) hw.1 (fun j j0 j1 => by omega)
    refine en_M_done ?_
    refine r_aload_n cd_M_done_0 rfl ?_
    refine r_vv0 cd_M_done_1 rfl ck_M_done_M_barOfEvenings (Nat.le_of_ble_eq_true rfl) zr_O rfl hS ?_
    refine r_if_ge cd_M_done_4 ⟨by omega, by omega⟩ (fun c_4 => ?_) (fun c_4 => ?_)
    · skip
      refine r_iconst cd_M_done_10 ?_
      refine r_istoren2_1 cd_M_done_11 rfl ?_
      exact e9
    · skip
      exact absurd c_4 (by decide)
  · have zE : ¬ okE b dv mc k r n := fun q => z (okB_iff.mpr q)
    obtain ⟨h', hm, hS⟩ := sp_bar_n (xs := xs) (c := c) (mn := mn) (sm := sm) (om := om) (ga := ga) (mr := mr) (ma := ma) (ax := ax) (sv := sv) (im := im) (kp := kp) hJ hw hp0 k r n zE
    unfold dnA dnW dnC
    rw [if_neg z, if_neg z, if_neg z]
    refine ⟨h', hm, ?_⟩
    refine en_M_done ?_
    refine r_aload_n cd_M_done_0 rfl ?_
    refine r_vv0 cd_M_done_1 rfl ck_M_done_M_barOfEvenings (Nat.le_of_ble_eq_true rfl) zr_O rfl hS ?_
    refine r_if_ge cd_M_done_4 ⟨by omega, by omega⟩ (fun c_4 => ?_) (fun c_4 => ?_)
    · skip
      exact absurd c_4 (by decide)
    · skip
      refine r_bipush cd_M_done_7 ?_
      exact r_iret cd_M_done_9 rt_M_done (by rfl) (by rfl)
theorem sp_M_behind {p q what : Int} (hJ : JL v fa gr ng wy) (hw : WF b) (hp0 : PdOK dv mc p) (hq : inR q) (hx : inR what) (k r n : Int) : MSp xs m_M_behind [vR 40, vI q, vI what] (z40 c (rf mn mc sm om ga mr ma ax b v sv dv fa gr ng wy im kp)) (vI (beA b dv mc k r n q what)) c mn mc b sv dv im kp := by
  obtain ⟨x1, x2⟩ := id hx
  by_cases z0 : 0 ≤ q ∧ q < 8
  · by_cases z1 : what = 0 ∨ what = 1
    · by_cases z : okB b dv mc k r n = true
      · have zE := okB_iff.mp z
        have hev := ev_ok (w := b) (ss := dv) (cn := mc) (pk := k) (pr := r) (pn := n) hw zE.1
        obtain ⟨sm', om', mr', ax', hS⟩ := sp_bar_y (xs := xs) (c := c) (mn := mn) (sm := sm) (om := om) (ga := ga) (mr := mr) (ma := ma) (ax := ax) (sv := sv) (im := im) (kp := kp) hJ hw hp0 k r n zE
        have hl9 : (((ev0 b dv mc k r n).1.length : Nat) : Int) = 21 := wlen hev.1
        unfold beA
        rw [if_pos z0, if_pos z1, if_pos z]
        refine ⟨(z40 c (rf mn mc sm' om' (at_ (ev0 b dv mc k r n).2.1 3) mr' (at_ (ev0 b dv mc k r n).2.1 0) ax' b ((ev0 b dv mc k r n).1) sv dv fa gr ng wy im kp)), mj (jl_v hJ hev.1.1), ?_⟩
        refine en_M_behind ?_
        refine r_iload_n cd_M_behind_0 rfl ?_
        refine r_cv1 cd_M_behind_1 rfl ck_M_behind_M_isRod rfl (Nat.le_of_ble_eq_true rfl) (sp_M_isRod hq) ?_
        refine r_ifne_p cd_M_behind_4 (fun c_4 => ?_) (fun c_4 => ?_)
        · skip
          refine r_iload_n cd_M_behind_9 rfl ?_
          refine r_iconst cd_M_behind_10 ?_
          refine r_iconst cd_M_behind_11 ?_
          refine r_cv3 cd_M_behind_12 rfl ck_M_behind_M_in rfl (Nat.le_of_ble_eq_true rfl) (sp_M_in hx ⟨by decide, by decide⟩ ⟨by decide, by decide⟩) ?_
          refine r_ifne_p cd_M_behind_15 (fun c_15 => ?_) (fun c_15 => ?_)
          · skip
            refine r_aload_n cd_M_behind_21 rfl ?_
            refine r_vv0 cd_M_behind_22 rfl ck_M_behind_M_barOfEvenings (Nat.le_of_ble_eq_true rfl) zr_O rfl hS ?_
            refine r_if_ge cd_M_behind_25 ⟨by omega, by omega⟩ (fun c_25 => ?_) (fun c_25 => ?_)
            · skip
              refine r_aload_n cd_M_behind_33 rfl ?_
              refine r_getfield cd_M_behind_34 zr_O rfl ?_
              refine r_bipush cd_M_behind_37 ?_
              refine r_iload_n cd_M_behind_39 rfl ?_
              refine r_imul cd_M_behind_40 ?_
              refine r_iload_n cd_M_behind_41 rfl ?_
              refine r_iadd cd_M_behind_42 ?_
              refine r_iaload (N := 21) cd_M_behind_43 zr_N hl9 (by omega) (by omega) (by omega) ?_
              exact r_iret cd_M_behind_44 rt_M_behind (by rfl) (by rfl)
            · skip
              exact absurd c_25 (by decide)
          · skip
            omega
        · skip
          refine r_iconst cd_M_behind_7 ?_
          exact absurd z0 c_4
      · have zE : ¬ okE b dv mc k r n := fun q => z (okB_iff.mpr q)
        obtain ⟨h', hm, hS⟩ := sp_bar_n (xs := xs) (c := c) (mn := mn) (sm := sm) (om := om) (ga := ga) (mr := mr) (ma := ma) (ax := ax) (sv := sv) (im := im) (kp := kp) hJ hw hp0 k r n zE
        unfold beA
        rw [if_pos z0, if_pos z1, if_neg z]
        refine ⟨h', hm, ?_⟩
        refine en_M_behind ?_
        refine r_iload_n cd_M_behind_0 rfl ?_
        refine r_cv1 cd_M_behind_1 rfl ck_M_behind_M_isRod rfl (Nat.le_of_ble_eq_true rfl) (sp_M_isRod hq) ?_
        refine r_ifne_p cd_M_behind_4 (fun c_4 => ?_) (fun c_4 => ?_)
        · skip
          refine r_iload_n cd_M_behind_9 rfl ?_
          refine r_iconst cd_M_behind_10 ?_
          refine r_iconst cd_M_behind_11 ?_
          refine r_cv3 cd_M_behind_12 rfl ck_M_behind_M_in rfl (Nat.le_of_ble_eq_true rfl) (sp_M_in hx ⟨by decide, by decide⟩ ⟨by decide, by decide⟩) ?_
          refine r_ifne_p cd_M_behind_15 (fun c_15 => ?_) (fun c_15 => ?_)
          · skip
            refine r_aload_n cd_M_behind_21 rfl ?_
            refine r_vv0 cd_M_behind_22 rfl ck_M_behind_M_barOfEvenings (Nat.le_of_ble_eq_true rfl) zr_O rfl hS ?_
            refine r_if_ge cd_M_behind_25 ⟨by omega, by omega⟩ (fun c_25 => ?_) (fun c_25 => ?_)
            · skip
              exact absurd c_25 (by decide)
            · skip
              refine r_bipush cd_M_behind_28 ?_
              refine r_goto cd_M_behind_30 ?_
              exact r_iret cd_M_behind_44 rt_M_behind (by rfl) (by rfl)
          · skip
            omega
        · skip
          refine r_iconst cd_M_behind_7 ?_
          exact absurd z0 c_4
    · refine ⟨(z40 c (rf mn mc sm om ga mr ma ax b v sv dv fa gr ng wy im kp)), mj hJ, ?_⟩
      unfold beA
      rw [if_pos z0, if_neg z1]
      refine en_M_behind ?_
      refine r_iload_n cd_M_behind_0 rfl ?_
      refine r_cv1 cd_M_behind_1 rfl ck_M_behind_M_isRod rfl (Nat.le_of_ble_eq_true rfl) (sp_M_isRod hq) ?_
      refine r_ifne_p cd_M_behind_4 (fun c_4 => ?_) (fun c_4 => ?_)
      · skip
        refine r_iload_n cd_M_behind_9 rfl ?_
        refine r_iconst cd_M_behind_10 ?_
        refine r_iconst cd_M_behind_11 ?_
        refine r_cv3 cd_M_behind_12 rfl ck_M_behind_M_in rfl (Nat.le_of_ble_eq_true rfl) (sp_M_in hx ⟨by decide, by decide⟩ ⟨by decide, by decide⟩) ?_
        refine r_ifne_p cd_M_behind_15 (fun c_15 => ?_) (fun c_15 => ?_)
        · skip
          omega
        · skip
          refine r_bipush cd_M_behind_18 ?_
          exact r_iret cd_M_behind_20 rt_M_behind (by rfl) (by rfl)
      · skip
        refine r_iconst cd_M_behind_7 ?_
        exact absurd z0 c_4
  · refine ⟨(z40 c (rf mn mc sm om ga mr ma ax b v sv dv fa gr ng wy im kp)), mj hJ, ?_⟩
    unfold beA
    rw [if_neg z0]
    refine en_M_behind ?_
    refine r_iload_n cd_M_behind_0 rfl ?_
    refine r_cv1 cd_M_behind_1 rfl ck_M_behind_M_isRod rfl (Nat.le_of_ble_eq_true rfl) (sp_M_isRod hq) ?_
    refine r_ifne_p cd_M_behind_4 (fun c_4 => ?_) (fun c_4 => ?_)
    · skip
      exact absurd c_4 z0
    · skip
      refine r_iconst cd_M_behind_7 ?_
      exact r_iret cd_M_behind_8 rt_M_behind (by rfl) (by rfl)
theorem sp_M_then {p what : Int} (hJ : JL v fa gr ng wy) (hw : WF b) (hp0 : PdOK dv mc p) (hx : inR what) (k r n : Int) : MSp xs m_M_then [vR 40, vI what] (z40 c (rf mn mc sm om ga mr ma ax b v sv dv fa gr ng wy im kp)) (vI (thA b dv mc k r n what)) c mn mc b sv dv im kp := by
  obtain ⟨x1, x2⟩ := id hx
  by_cases z1 : 0 ≤ what ∧ what ≤ 6
  · by_cases z : okB b dv mc k r n = true
    · have zE := okB_iff.mp z
      have hev := ev_ok (w := b) (ss := dv) (cn := mc) (pk := k) (pr := r) (pn := n) hw zE.1
      obtain ⟨sm', om', mr', ax', hS⟩ := sp_bar_y (xs := xs) (c := c) (mn := mn) (sm := sm) (om := om) (ga := ga) (mr := mr) (ma := ma) (ax := ax) (sv := sv) (im := im) (kp := kp) hJ hw hp0 k r n zE
      have hl9 : (((ev0 b dv mc k r n).1.length : Nat) : Int) = 21 := wlen hev.1
      have hbl := hev.1.2.2.2.1
      unfold thA
      rw [if_pos z1, if_pos z]
      refine ⟨(z40 c (rf mn mc sm' om' (at_ (ev0 b dv mc k r n).2.1 3) mr' (at_ (ev0 b dv mc k r n).2.1 0) ax' b ((ev0 b dv mc k r n).1) sv dv fa gr ng wy im kp)), mj (jl_v hJ hev.1.1), ?_⟩
      generalize (ev0 b dv mc k r n).1 = X at *
      refine en_M_then ?_
      refine r_iload_n cd_M_then_0 rfl ?_
      refine r_iconst cd_M_then_1 ?_
      refine r_bipush cd_M_then_2 ?_
      refine r_cv3 cd_M_then_4 rfl ck_M_then_M_in rfl (Nat.le_of_ble_eq_true rfl) (sp_M_in hx ⟨by decide, by decide⟩ ⟨by decide, by decide⟩) ?_
      refine r_ifne_p cd_M_then_7 (fun c_7 => ?_) (fun c_7 => ?_)
      · skip
        refine r_aload_n cd_M_then_13 rfl ?_
        refine r_vv0 cd_M_then_14 rfl ck_M_then_M_barOfEvenings (Nat.le_of_ble_eq_true rfl) zr_O rfl hS ?_
        refine r_if_ge cd_M_then_17 ⟨by omega, by omega⟩ (fun c_17 => ?_) (fun c_17 => ?_)
        · skip
          refine r_iload_n cd_M_then_23 rfl ?_
          refine r_bipush cd_M_then_24 ?_
          refine r_icmp_ne cd_M_then_26 ⟨by omega, by omega⟩ ⟨by decide, by decide⟩ (fun c_26 => ?_) (fun c_26 => ?_)
          · skip
            refine r_iload_n cd_M_then_34 rfl ?_
            refine r_iconst cd_M_then_35 ?_
            refine r_icmp_ge cd_M_then_36 ⟨by omega, by omega⟩ ⟨by decide, by decide⟩ (fun c_36 => ?_) (fun c_36 => ?_)
            · skip
              refine r_iload_n cd_M_then_51 rfl ?_
              refine r_iconst cd_M_then_52 ?_
              refine r_icmp_le cd_M_then_53 ⟨by omega, by omega⟩ ⟨by decide, by decide⟩ (fun c_53 => ?_) (fun c_53 => ?_)
              · skip
                refine r_aload_n cd_M_then_68 rfl ?_
                refine r_getfield cd_M_then_69 zr_O rfl ?_
                refine r_bipush cd_M_then_72 ?_
                refine r_iaload (N := 21) cd_M_then_74 zr_N hl9 (by omega) (by omega) (by omega) ?_
                refine r_if_ge cd_M_then_75 ⟨by omega, by omega⟩ (fun c_75 => ?_) (fun c_75 => ?_)
                · skip
                  refine r_aload_n cd_M_then_83 rfl ?_
                  refine r_aload_n cd_M_then_84 rfl ?_
                  refine r_getfield cd_M_then_85 zr_O rfl ?_
                  refine r_bipush cd_M_then_88 ?_
                  refine r_iaload (N := 21) cd_M_then_90 zr_N hl9 (by omega) (by omega) (by omega) ?_
                  refine r_aload_n cd_M_then_91 rfl ?_
                  refine r_getfield cd_M_then_92 zr_O rfl ?_
                  refine r_bipush cd_M_then_95 ?_
                  refine r_iaload (N := 21) cd_M_then_97 zr_N hl9 (by omega) (by omega) (by omega) ?_
                  refine r_vv2 cd_M_then_98 rfl ck_M_then_M_standsAt (Nat.le_of_ble_eq_true rfl) zr_O rfl (sp_M_standsAt zr_O zr_N hev.1 (by omega) (by omega)) ?_
                  exact r_iret cd_M_then_101 rt_M_then (by (have hh : what = 0 ∨ what = 1 ∨ what = 2 ∨ what = 3 ∨ what = 4 ∨ what = 5 := (by omega); rcases hh with rfl | rfl | rfl | rfl | rfl | rfl <;> first | omega | rfl | (show _ = (if at_ X 16 = -6 then (-6 : Int) else pos X (at_ X 16) (at_ X 17)); first | (rw [if_pos (by omega)]; done) | (rw [if_neg (by omega)]; done)))) (by rfl)
                · skip
                  refine r_bipush cd_M_then_78 ?_
                  refine r_goto cd_M_then_80 ?_
                  exact r_iret cd_M_then_101 rt_M_then (by (have hh : what = 0 ∨ what = 1 ∨ what = 2 ∨ what = 3 ∨ what = 4 ∨ what = 5 := (by omega); rcases hh with rfl | rfl | rfl | rfl | rfl | rfl <;> first | omega | rfl | (show _ = (if at_ X 16 = -6 then (-6 : Int) else pos X (at_ X 16) (at_ X 17)); first | (rw [if_pos (by omega)]; done) | (rw [if_neg (by omega)]; done)))) (by rfl)
              · skip
                refine r_aload_n cd_M_then_56 rfl ?_
                refine r_getfield cd_M_then_57 zr_O rfl ?_
                refine r_bipush cd_M_then_60 ?_
                refine r_iload_n cd_M_then_62 rfl ?_
                refine r_iadd cd_M_then_63 ?_
                refine r_iaload (N := 21) cd_M_then_64 zr_N hl9 (by omega) (by omega) (by omega) ?_
                refine r_goto cd_M_then_65 ?_
                exact r_iret cd_M_then_101 rt_M_then (by (have hh : what = 0 ∨ what = 1 ∨ what = 2 ∨ what = 3 ∨ what = 4 ∨ what = 5 := (by omega); rcases hh with rfl | rfl | rfl | rfl | rfl | rfl <;> first | omega | rfl | (show _ = (if at_ X 16 = -6 then (-6 : Int) else pos X (at_ X 16) (at_ X 17)); first | (rw [if_pos (by omega)]; done) | (rw [if_neg (by omega)]; done)))) (by rfl)
            · skip
              refine r_aload_n cd_M_then_39 rfl ?_
              refine r_getfield cd_M_then_40 zr_O rfl ?_
              refine r_bipush cd_M_then_43 ?_
              refine r_iload_n cd_M_then_45 rfl ?_
              refine r_iadd cd_M_then_46 ?_
              refine r_iaload (N := 21) cd_M_then_47 zr_N hl9 (by omega) (by omega) (by omega) ?_
              refine r_goto cd_M_then_48 ?_
              exact r_iret cd_M_then_101 rt_M_then (by (have hh : what = 0 ∨ what = 1 ∨ what = 2 ∨ what = 3 ∨ what = 4 ∨ what = 5 := (by omega); rcases hh with rfl | rfl | rfl | rfl | rfl | rfl <;> first | omega | rfl | (show _ = (if at_ X 16 = -6 then (-6 : Int) else pos X (at_ X 16) (at_ X 17)); first | (rw [if_pos (by omega)]; done) | (rw [if_neg (by omega)]; done)))) (by rfl)
          · skip
            refine r_aload_n cd_M_then_29 rfl ?_
            refine r_getfield cd_M_then_30 zr_O rfl ?_
            exact r_iret cd_M_then_33 rt_M_then (by (rw [c_26]; rfl)) (by rfl)
        · skip
          exact absurd c_17 (by decide)
      · skip
        refine r_bipush cd_M_then_10 ?_
        omega
    · have zE : ¬ okE b dv mc k r n := fun q => z (okB_iff.mpr q)
      obtain ⟨h', hm, hS⟩ := sp_bar_n (xs := xs) (c := c) (mn := mn) (sm := sm) (om := om) (ga := ga) (mr := mr) (ma := ma) (ax := ax) (sv := sv) (im := im) (kp := kp) hJ hw hp0 k r n zE
      unfold thA
      rw [if_pos z1, if_neg z]
      refine ⟨h', hm, ?_⟩
      refine en_M_then ?_
      refine r_iload_n cd_M_then_0 rfl ?_
      refine r_iconst cd_M_then_1 ?_
      refine r_bipush cd_M_then_2 ?_
      refine r_cv3 cd_M_then_4 rfl ck_M_then_M_in rfl (Nat.le_of_ble_eq_true rfl) (sp_M_in hx ⟨by decide, by decide⟩ ⟨by decide, by decide⟩) ?_
      refine r_ifne_p cd_M_then_7 (fun c_7 => ?_) (fun c_7 => ?_)
      · skip
        refine r_aload_n cd_M_then_13 rfl ?_
        refine r_vv0 cd_M_then_14 rfl ck_M_then_M_barOfEvenings (Nat.le_of_ble_eq_true rfl) zr_O rfl hS ?_
        refine r_if_ge cd_M_then_17 ⟨by omega, by omega⟩ (fun c_17 => ?_) (fun c_17 => ?_)
        · skip
          exact absurd c_17 (by decide)
        · skip
          refine r_bipush cd_M_then_20 ?_
          exact r_iret cd_M_then_22 rt_M_then (by rfl) (by rfl)
      · skip
        refine r_bipush cd_M_then_10 ?_
        omega
  · refine ⟨(z40 c (rf mn mc sm om ga mr ma ax b v sv dv fa gr ng wy im kp)), mj hJ, ?_⟩
    unfold thA
    rw [if_neg z1]
    refine en_M_then ?_
    refine r_iload_n cd_M_then_0 rfl ?_
    refine r_iconst cd_M_then_1 ?_
    refine r_bipush cd_M_then_2 ?_
    refine r_cv3 cd_M_then_4 rfl ck_M_then_M_in rfl (Nat.le_of_ble_eq_true rfl) (sp_M_in hx ⟨by decide, by decide⟩ ⟨by decide, by decide⟩) ?_
    refine r_ifne_p cd_M_then_7 (fun c_7 => ?_) (fun c_7 => ?_)
    · skip
      omega
    · skip
      refine r_bipush cd_M_then_10 ?_
      exact r_iret cd_M_then_12 rt_M_then (by rfl) (by rfl)
theorem sp_M_ends {d : Int} (hJ : JL v fa gr ng wy) (hw : WF b) (hd : inR d) : MSp xs m_M_ends [vR 40, vI d] (z40 c (rf mn mc sm om ga mr ma ax b v sv dv fa gr ng wy im kp)) (vI (enA b d)) c mn mc b sv dv im kp := by
  have hbl := hw.2.2.2.1
  have sA : Sp xs m_M_asNow [vR 40] (z40 c (rf mn mc sm om ga mr ma ax b v sv dv fa gr ng wy im kp)) none (z40 c (rf mn mc sm om (-6) mr ma ax b b sv dv fa gr ng wy im kp)) := sp_asN hw.1 hJ.1
  by_cases z0 : -9 ≤ d ∧ d ≤ 9
  · by_cases z1 : at_ b 16 = -6
    · refine ⟨(z40 c (rf mn mc sm om (-6) mr ma ax b b sv dv fa gr ng wy im kp)), mj (jl_v hJ hw.1), ?_⟩
      unfold enA
      rw [if_pos z0, if_pos z1]
      refine en_M_ends ?_
      refine r_iload_n cd_M_ends_0 rfl ?_
      refine r_bipush cd_M_ends_1 ?_
      refine r_bipush cd_M_ends_3 ?_
      refine r_cv3 cd_M_ends_5 rfl ck_M_ends_M_in rfl (Nat.le_of_ble_eq_true rfl) (sp_M_in hd ⟨by decide, by decide⟩ ⟨by decide, by decide⟩) ?_
      refine r_ifne_p cd_M_ends_8 (fun c_8 => ?_) (fun c_8 => ?_)
      · skip
        refine r_aload_n cd_M_ends_14 rfl ?_
        refine r_vz0 cd_M_ends_15 rfl ck_M_ends_M_asNow (Nat.le_of_ble_eq_true rfl) zr_O rfl sA ?_
        refine r_aload_n cd_M_ends_18 rfl ?_
        refine r_getfield cd_M_ends_19 zr_O rfl ?_
        refine r_bipush cd_M_ends_22 ?_
        refine r_iaload (N := 21) cd_M_ends_24 zr_N (wlen hw) (by omega) (by omega) (by omega) ?_
        refine r_if_ge cd_M_ends_25 ⟨by omega, by omega⟩ (fun c_25 => ?_) (fun c_25 => ?_)
        · skip
          omega
        · skip
          refine r_bipush cd_M_ends_28 ?_
          refine r_goto cd_M_ends_30 ?_
          exact r_iret cd_M_ends_38 rt_M_ends (by rfl) (by rfl)
      · skip
        refine r_bipush cd_M_ends_11 ?_
        omega
    · have sS : Sp xs m_M_shotBy [vR 40, vI d] (z40 c (rf mn mc sm om (-6) mr ma ax b b sv dv fa gr ng wy im kp)) (some (vI (shot b d / 10))) (z40 c (rf mn mc (shot b d % 10) om (-6) mr ma ax b b sv dv fa gr ng wy im kp)) := sp_M_shotBy zr_O zr_N hw z1 z0.1 z0.2
      refine ⟨(z40 c (rf mn mc (shot b d % 10) om (-6) mr ma ax b b sv dv fa gr ng wy im kp)), mj (jl_v hJ hw.1), ?_⟩
      unfold enA
      rw [if_pos z0, if_neg z1]
      refine en_M_ends ?_
      refine r_iload_n cd_M_ends_0 rfl ?_
      refine r_bipush cd_M_ends_1 ?_
      refine r_bipush cd_M_ends_3 ?_
      refine r_cv3 cd_M_ends_5 rfl ck_M_ends_M_in rfl (Nat.le_of_ble_eq_true rfl) (sp_M_in hd ⟨by decide, by decide⟩ ⟨by decide, by decide⟩) ?_
      refine r_ifne_p cd_M_ends_8 (fun c_8 => ?_) (fun c_8 => ?_)
      · skip
        refine r_aload_n cd_M_ends_14 rfl ?_
        refine r_vz0 cd_M_ends_15 rfl ck_M_ends_M_asNow (Nat.le_of_ble_eq_true rfl) zr_O rfl sA ?_
        refine r_aload_n cd_M_ends_18 rfl ?_
        refine r_getfield cd_M_ends_19 zr_O rfl ?_
        refine r_bipush cd_M_ends_22 ?_
        refine r_iaload (N := 21) cd_M_ends_24 zr_N (wlen hw) (by omega) (by omega) (by omega) ?_
        refine r_if_ge cd_M_ends_25 ⟨by omega, by omega⟩ (fun c_25 => ?_) (fun c_25 => ?_)
        · skip
          refine r_aload_n cd_M_ends_33 rfl ?_
          refine r_iload_n cd_M_ends_34 rfl ?_
          refine r_vv1 cd_M_ends_35 rfl ck_M_ends_M_shotBy (Nat.le_of_ble_eq_true rfl) zr_O rfl sS ?_
          exact r_iret cd_M_ends_38 rt_M_ends (by rfl) (by rfl)
        · skip
          omega
      · skip
        refine r_bipush cd_M_ends_11 ?_
        omega
  · refine ⟨(z40 c (rf mn mc sm om ga mr ma ax b v sv dv fa gr ng wy im kp)), mj hJ, ?_⟩
    unfold enA
    rw [if_neg z0]
    refine en_M_ends ?_
    refine r_iload_n cd_M_ends_0 rfl ?_
    refine r_bipush cd_M_ends_1 ?_
    refine r_bipush cd_M_ends_3 ?_
    refine r_cv3 cd_M_ends_5 rfl ck_M_ends_M_in rfl (Nat.le_of_ble_eq_true rfl) (sp_M_in hd ⟨by decide, by decide⟩ ⟨by decide, by decide⟩) ?_
    refine r_ifne_p cd_M_ends_8 (fun c_8 => ?_) (fun c_8 => ?_)
    · skip
      omega
    · skip
      refine r_bipush cd_M_ends_11 ?_
      exact r_iret cd_M_ends_13 rt_M_ends (by rfl) (by rfl)
theorem shl_k2 : ∀ n : Nat, n < 19 → bShl 1 ((n : Int) - 9 + 9) = ((2 ^ n : Nat) : Int) := shl_k
theorem bOr_0 {a : Nat} (ha : a < 2147483648) : bOr (a : Int) 0 = (a : Int) := by
  have := bOr_nat (a := a) (b := 0) ha (by decide)
  rw [Nat.or_zero] at this
  exact this
theorem lp_M_allIn (hv : WF v) (ha : at_ v 16 ≠ -6) : ∀ (k n : Nat) (sm : Int), n + k = 19 → ∃ sm', Rn xs m_M_allIn 5 [vR 40, vI (bsN (inB v) n : Nat), vI ((n : Int) - 9)] [] (z40 c (rf mn mc sm om ga mr ma ax b v sv dv fa gr ng wy im kp)) (some (vI (bsN (inB v) 19 : Nat))) (z40 c (rf mn mc sm' om ga mr ma ax b v sv dv fa gr ng wy im kp)) := by
  intro k
  induction k with
  | zero =>
    intro n sm h1
    have : n = 19 := by omega
    subst this
    refine ⟨sm, ?_⟩
    refine r_iload_n cd_M_allIn_5 rfl ?_
    refine r_bipush cd_M_allIn_6 ?_
    refine r_icmp_ge cd_M_allIn_8 ⟨by omega, by omega⟩ ⟨by decide, by decide⟩ (fun c_8 => ?_) (fun c_8 => ?_)
    · skip
      refine r_iload_n cd_M_allIn_40 rfl ?_
      exact r_iret cd_M_allIn_41 rt_M_allIn (by first | rfl | omega | (split <;> first | rfl | omega)) (by rfl)
    · skip
      omega
  | succ k ih =>
    intro n sm h1
    have hsh := shot_nn (d := (n : Int) - 9) hv ha
    have sS : Sp xs m_M_shotBy [vR 40, vI ((n : Int) - 9)] (z40 c (rf mn mc sm om ga mr ma ax b v sv dv fa gr ng wy im kp)) (some (vI (shot v ((n : Int) - 9) / 10))) (z40 c (rf mn mc (shot v ((n : Int) - 9) % 10) om ga mr ma ax b v sv dv fa gr ng wy im kp)) := sp_M_shotBy zr_O zr_N hv ha (by omega) (by omega)
    obtain ⟨sm', e9⟩ := ih (n + 1) (shot v ((n : Int) - 9) % 10) (by omega)
    refine ⟨sm', ?_⟩
    rw [show ((n + 1 : Nat) : Int) - 9 = (n : Int) - 9 + 1 by omega] at e9
    have t32 : ∀ x, bOr (bsN (inB v) n : Nat) x = (bsN (inB v) (n + 1) : Nat) → Rn xs m_M_allIn 32 [vR 40, vI (bsN (inB v) n : Nat), vI ((n : Int) - 9)] [vI x, vI (bsN (inB v) n : Nat)] (z40 c (rf mn mc (shot v ((n : Int) - 9) % 10) om ga mr ma ax b v sv dv fa gr ng wy im kp)) (some (vI (bsN (inB v) 19 : Nat))) (z40 c (rf mn mc sm' om ga mr ma ax b v sv dv fa gr ng wy im kp)) := by
      intro x hx
      refine r_ior cd_M_allIn_32 ?_
      refine r_istoren3_1 cd_M_allIn_33 rfl ?_
      refine r_iinc3_2 cd_M_allIn_34 rfl ?_
      refine r_goto cd_M_allIn_37 ?_
      (rw [hx]; exact e9)
    have hb1 := bsN_lt (inB v) n
    have hb2 := p19 (n := n) (by omega)
    have h80 : shot v ((n : Int) - 9) = 80 ∨ shot v ((n : Int) - 9) < 80 := by
      rcases shot_bd (d := (n : Int) - 9) hv ha with z | z
      · exact Or.inl z
      · exact Or.inr z.2.1
    refine r_iload_n cd_M_allIn_5 rfl ?_
    refine r_bipush cd_M_allIn_6 ?_
    refine r_icmp_ge cd_M_allIn_8 ⟨by omega, by omega⟩ ⟨by decide, by decide⟩ (fun c_8 => ?_) (fun c_8 => ?_)
    · skip
      omega
    · skip
      refine r_iload_n cd_M_allIn_11 rfl ?_
      refine r_aload_n cd_M_allIn_12 rfl ?_
      refine r_iload_n cd_M_allIn_13 rfl ?_
      refine r_vv1 cd_M_allIn_14 rfl ck_M_allIn_M_shotBy (Nat.le_of_ble_eq_true rfl) zr_O rfl sS ?_
      refine r_bipush cd_M_allIn_17 ?_
      refine r_icmp_ne cd_M_allIn_19 ⟨by omega, by omega⟩ ⟨by decide, by decide⟩ (fun c_19 => ?_) (fun c_19 => ?_)
      · skip
        refine r_iconst cd_M_allIn_31 ?_
        first | (refine t32 _ ?_; rw [shl_k2 n (by omega), bsN_t (by omega) (decide_eq_true (by omega))]; done) | (refine t32 _ ?_; rw [bOr_0 (by omega), bsN_f (fun z => by have := of_decide_eq_true z; omega)]; done)
      · skip
        refine r_iconst cd_M_allIn_22 ?_
        refine r_iload_n cd_M_allIn_23 rfl ?_
        refine r_bipush cd_M_allIn_24 ?_
        refine r_iadd cd_M_allIn_26 ?_
        refine r_ishl cd_M_allIn_27 ?_
        refine r_goto cd_M_allIn_28 ?_
        first | (refine t32 _ ?_; rw [shl_k2 n (by omega), bsN_t (by omega) (decide_eq_true (by omega))]; done) | (refine t32 _ ?_; rw [bOr_0 (by omega), bsN_f (fun z => by have := of_decide_eq_true z; omega)]; done)
theorem sp_M_allIn (hv : WF v) (ha : at_ v 16 ≠ -6) : ∃ sm', Sp xs m_M_allIn [vR 40] (z40 c (rf mn mc sm om ga mr ma ax b v sv dv fa gr ng wy im kp)) (some (vI (bsN (inB v) 19 : Nat))) (z40 c (rf mn mc sm' om ga mr ma ax b v sv dv fa gr ng wy im kp)) := by
  obtain ⟨sm', e9⟩ := lp_M_allIn (xs := xs) (c := c) (mn := mn) (mc := mc) (om := om) (ga := ga) (mr := mr) (ma := ma) (ax := ax) (b := b) (sv := sv) (dv := dv) (fa := fa) (gr := gr) (ng := ng) (wy := wy) (im := im) (kp := kp) hv ha 19 0 sm (by omega)
  refine ⟨sm', ?_⟩
  refine en_M_allIn ?_
  refine r_iconst cd_M_allIn_0 ?_
  refine r_istoren3_1 cd_M_allIn_1 rfl ?_
  refine r_bipush cd_M_allIn_2 ?_
  refine r_istoren3_2 cd_M_allIn_4 rfl ?_
  exact e9
theorem sp_M_goesIn (hJ : JL v fa gr ng wy) (hw : WF b) : MSp xs m_M_goesIn [vR 40] (z40 c (rf mn mc sm om ga mr ma ax b v sv dv fa gr ng wy im kp)) (vI (giA b)) c mn mc b sv dv im kp := by
  have hbl := hw.2.2.2.1
  have sA : Sp xs m_M_asNow [vR 40] (z40 c (rf mn mc sm om ga mr ma ax b v sv dv fa gr ng wy im kp)) none (z40 c (rf mn mc sm om (-6) mr ma ax b b sv dv fa gr ng wy im kp)) := sp_asN hw.1 hJ.1
  by_cases z1 : at_ b 16 = -6
  · refine ⟨(z40 c (rf mn mc sm om (-6) mr ma ax b b sv dv fa gr ng wy im kp)), mj (jl_v hJ hw.1), ?_⟩
    unfold giA
    rw [if_pos z1]
    refine en_M_goesIn ?_
    refine r_aload_n cd_M_goesIn_0 rfl ?_
    refine r_vz0 cd_M_goesIn_1 rfl ck_M_goesIn_M_asNow (Nat.le_of_ble_eq_true rfl) zr_O rfl sA ?_
    refine r_aload_n cd_M_goesIn_4 rfl ?_
    refine r_getfield cd_M_goesIn_5 zr_O rfl ?_
    refine r_bipush cd_M_goesIn_8 ?_
    refine r_iaload (N := 21) cd_M_goesIn_10 zr_N (wlen hw) (by omega) (by omega) (by omega) ?_
    refine r_if_ge cd_M_goesIn_11 ⟨by omega, by omega⟩ (fun c_11 => ?_) (fun c_11 => ?_)
    · skip
      omega
    · skip
      refine r_bipush cd_M_goesIn_14 ?_
      refine r_goto cd_M_goesIn_16 ?_
      exact r_iret cd_M_goesIn_23 rt_M_goesIn (by rfl) (by rfl)
  · obtain ⟨sm', sS⟩ := sp_M_allIn (xs := xs) (c := c) (mn := mn) (mc := mc) (sm := sm) (om := om) (ga := -6) (mr := mr) (ma := ma) (ax := ax) (b := b) (v := b) (sv := sv) (dv := dv) (fa := fa) (gr := gr) (ng := ng) (wy := wy) (im := im) (kp := kp) hw z1
    refine ⟨(z40 c (rf mn mc sm' om (-6) mr ma ax b b sv dv fa gr ng wy im kp)), mj (jl_v hJ hw.1), ?_⟩
    unfold giA
    rw [if_neg z1]
    refine en_M_goesIn ?_
    refine r_aload_n cd_M_goesIn_0 rfl ?_
    refine r_vz0 cd_M_goesIn_1 rfl ck_M_goesIn_M_asNow (Nat.le_of_ble_eq_true rfl) zr_O rfl sA ?_
    refine r_aload_n cd_M_goesIn_4 rfl ?_
    refine r_getfield cd_M_goesIn_5 zr_O rfl ?_
    refine r_bipush cd_M_goesIn_8 ?_
    refine r_iaload (N := 21) cd_M_goesIn_10 zr_N (wlen hw) (by omega) (by omega) (by omega) ?_
    refine r_if_ge cd_M_goesIn_11 ⟨by omega, by omega⟩ (fun c_11 => ?_) (fun c_11 => ?_)
    · skip
      refine r_aload_n cd_M_goesIn_19 rfl ?_
      refine r_vv0 cd_M_goesIn_20 rfl ck_M_goesIn_M_allIn (Nat.le_of_ble_eq_true rfl) zr_O rfl sS ?_
      exact r_iret cd_M_goesIn_23 rt_M_goesIn (by rfl) (by rfl)
    · skip
      omega
end C71
