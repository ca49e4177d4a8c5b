-- behind, then, ends, goesIn, path, stand of the class
section C62
variable {xs : List Int} {w ss : List Int} {cn pl pk pr pn ac st re fg : Int} {we pc : List Int} {li sl : Int} {wt pb sh sd rw : List Int} {sn fd i1 : Int} {w1 sh1 sd1 rw1 : List Int} {sn1 fd1 i2 : Int} {w2 sh2 sd2 rw2 : List Int} {sn2 fd2 : Int} {wd : List Int} {R : MH}
def beA (w ss : List Int) (cn k r n q what : Int) : Int := if 0 ≤ q ∧ q < 8 then (if what = 0 ∨ what = 1 then (if okB w ss cn k r n = true then at_ (ev0 w ss cn k r n).1 (8 * what + q) else -5) else -2) else -1
theorem sp_F_behind {q what : Int} (hp0 : PdOK ss cn pl) (hw : WF w) (he : we.length = 21) (hq : inR q) (hx : inR what) : ∃ a b c d e f g i wE, (0 ≤ a ∧ wE.length = 21) ∧ Sp xs m_F_behind [vR 0, vI q, vI what] (hp w ss cn pl pk pr pn ac st re fg we pc li sl wt pb sh sd rw sn fd i1 w1 sh1 sd1 rw1 sn1 fd1 i2 w2 sh2 sd2 rw2 sn2 fd2 wd R) (some (vI (beA w ss cn pk pr pn q what))) (hp w ss cn a b c d e f g i wE pc li sl wt pb sh sd rw sn fd i1 w1 sh1 sd1 rw1 sn1 fd1 i2 w2 sh2 sd2 rw2 sn2 fd2 wd R) := by
  have hx2 := hx
  obtain ⟨x1, x2⟩ := hx2
  by_cases z0 : 0 ≤ q ∧ q < 8
  · skip
    by_cases z1 : what = 0 ∨ what = 1
    · skip
      by_cases z : okB w ss cn pk pr pn = true
      · have zE := okB_iff.mp z
        have hev := ev_ok (pk := pk) (pr := pr) (pn := pn) hw zE.1
        refine ⟨at_ (ev0 w ss cn pk pr pn).2.2 0, at_ (ev0 w ss cn pk pr pn).2.2 1, at_ (ev0 w ss cn pk pr pn).2.2 2, at_ (ev0 w ss cn pk pr pn).2.2 3, at_ (ev0 w ss cn pk pr pn).2.1 0, at_ (ev0 w ss cn pk pr pn).2.1 1, at_ (ev0 w ss cn pk pr pn).2.1 2, at_ (ev0 w ss cn pk pr pn).2.1 3, (ev0 w ss cn pk pr pn).1, ⟨(pd_ev hp0 hw zE.1).2.2.2.1, hev.1.1⟩, ?_⟩
        unfold beA
        rw [if_pos z0, if_pos z1, if_pos z]
        have hE : (hp w ss cn (at_ (ev0 w ss cn pk pr pn).2.2 0) (at_ (ev0 w ss cn pk pr pn).2.2 1) (at_ (ev0 w ss cn pk pr pn).2.2 2) (at_ (ev0 w ss cn pk pr pn).2.2 3) (at_ (ev0 w ss cn pk pr pn).2.1 0) (at_ (ev0 w ss cn pk pr pn).2.1 1) (at_ (ev0 w ss cn pk pr pn).2.1 2) (at_ (ev0 w ss cn pk pr pn).2.1 3) ((ev0 w ss cn pk pr pn).1) pc li sl wt pb sh sd rw sn fd i1 w1 sh1 sd1 rw1 sn1 fd1 i2 w2 sh2 sd2 rw2 sn2 fd2 wd R)[6]? = some (eobj (at_ (ev0 w ss cn pk pr pn).2.1 0) (at_ (ev0 w ss cn pk pr pn).2.1 1) (at_ (ev0 w ss cn pk pr pn).2.1 2) (at_ (ev0 w ss cn pk pr pn).2.1 3)) := rfl
        have hT7 : TabAt (hp w ss cn (at_ (ev0 w ss cn pk pr pn).2.2 0) (at_ (ev0 w ss cn pk pr pn).2.2 1) (at_ (ev0 w ss cn pk pr pn).2.2 2) (at_ (ev0 w ss cn pk pr pn).2.2 3) (at_ (ev0 w ss cn pk pr pn).2.1 0) (at_ (ev0 w ss cn pk pr pn).2.1 1) (at_ (ev0 w ss cn pk pr pn).2.1 2) (at_ (ev0 w ss cn pk pr pn).2.1 3) ((ev0 w ss cn pk pr pn).1) pc li sl wt pb sh sd rw sn fd i1 w1 sh1 sd1 rw1 sn1 fd1 i2 w2 sh2 sd2 rw2 sn2 fd2 wd R) 7 (ev0 w ss cn pk pr pn).1 := ⟨rfl, rfl, rfl⟩
        have hb := hev.1.2.2.1 q z0.1 z0.2
        refine en_F_behind ?_
        refine r_iload_n cd_F_behind_0 rfl ?_
        refine r_cv1 cd_F_behind_1 rfl ck_F_behind_Rods_isRod rfl (Nat.le_of_ble_eq_true rfl) (sp_Rods_isRod hq) ?_
        refine r_ifne_p cd_F_behind_4 (fun c_4 => ?_) (fun c_4 => ?_)
        · skip
          refine r_iload_n cd_F_behind_9 rfl ?_
          refine r_cv1 cd_F_behind_10 rfl ck_F_behind_F_isBit rfl (Nat.le_of_ble_eq_true rfl) (sp_isBit hx) ?_
          refine r_ifne_p cd_F_behind_13 (fun c_13 => ?_) (fun c_13 => ?_)
          · skip
            refine r_aload_n cd_F_behind_19 rfl ?_
            refine r_vv0 cd_F_behind_20 rfl ck_F_behind_F_playsThrough (Nat.le_of_ble_eq_true rfl) (by first | exact hp_0 | rfl) rfl (sp_pt_y hp0 hw he zE) ?_
            refine r_if_ne cd_F_behind_23 ⟨by decide, by decide⟩ (fun _ => ?_) (fun c_23 => absurd c_23 (by decide))
            refine r_iload_n cd_F_behind_29 rfl ?_
            refine r_if_ne cd_F_behind_30 ⟨by omega, by omega⟩ (fun c_30 => ?_) (fun c_30 => ?_)
            · skip
              refine r_aload_n cd_F_behind_45 rfl ?_
              refine r_getfield cd_F_behind_46 (by first | exact hp_0 | rfl) rfl ?_
              refine r_vv0 cd_F_behind_49 rfl ck_F_behind_Evening_table (Nat.le_of_ble_eq_true rfl) hE rfl (sp_table hE) ?_
              refine r_iload_n cd_F_behind_52 rfl ?_
              refine r_vv1 cd_F_behind_53 rfl ck_F_behind_Table_isHeld (Nat.le_of_ble_eq_true rfl) hT7.1 rfl (sp_isHeld hT7 hev.1 z0.1 z0.2) ?_
              refine r_ifeq_p cd_F_behind_56 (fun c_56 => ?_) (fun c_56 => ?_)
              · skip
                refine r_iconst cd_F_behind_63 ?_
                exact r_iret cd_F_behind_64 rt_F_behind (by (rw [show 8 * what + q = 8 + q by omega]; omega)) (by rfl)
              · skip
                refine r_iconst cd_F_behind_59 ?_
                refine r_goto cd_F_behind_60 ?_
                exact r_iret cd_F_behind_64 rt_F_behind (by (rw [show 8 * what + q = 8 + q by omega]; omega)) (by rfl)
            · skip
              refine r_aload_n cd_F_behind_33 rfl ?_
              refine r_getfield cd_F_behind_34 (by first | exact hp_0 | rfl) rfl ?_
              refine r_vv0 cd_F_behind_37 rfl ck_F_behind_Evening_table (Nat.le_of_ble_eq_true rfl) hE rfl (sp_table hE) ?_
              refine r_iload_n cd_F_behind_40 rfl ?_
              refine r_vv1 cd_F_behind_41 rfl ck_F_behind_Table_slideOf (Nat.le_of_ble_eq_true rfl) hT7.1 rfl (sp_slideOf hT7 hev.1 z0.1 z0.2) ?_
              exact r_iret cd_F_behind_44 rt_F_behind (by (rw [show 8 * what + q = q by omega])) (by rfl)
          · skip
            refine r_bipush cd_F_behind_16 ?_
            exact absurd z1 c_13
        · skip
          refine r_iconst cd_F_behind_7 ?_
          exact absurd z0 c_4
      · have zE : ¬ okE w ss cn pk pr pn := fun q => z (okB_iff.mpr q)
        obtain ⟨a, b, c, d, e, f, g, i, wE, j, hS⟩ := sp_pt_n (xs := xs) (ac := ac) (st := st) (re := re) (fg := fg) (pc := pc) (li := li) (sl := sl) (wt := wt) (pb := pb) (sh := sh) (sd := sd) (rw := rw) (sn := sn) (fd := fd) (i1 := i1) (w1 := w1) (sh1 := sh1) (sd1 := sd1) (rw1 := rw1) (sn1 := sn1) (fd1 := fd1) (i2 := i2) (w2 := w2) (sh2 := sh2) (sd2 := sd2) (rw2 := rw2) (sn2 := sn2) (fd2 := fd2) (wd := wd) (R := R) hp0 hw he zE
        refine ⟨a, b, c, d, e, f, g, i, wE, j, ?_⟩
        unfold beA
        rw [if_pos z0, if_pos z1, if_neg z]
        refine en_F_behind ?_
        refine r_iload_n cd_F_behind_0 rfl ?_
        refine r_cv1 cd_F_behind_1 rfl ck_F_behind_Rods_isRod rfl (Nat.le_of_ble_eq_true rfl) (sp_Rods_isRod hq) ?_
        refine r_ifne_p cd_F_behind_4 (fun c_4 => ?_) (fun c_4 => ?_)
        · skip
          refine r_iload_n cd_F_behind_9 rfl ?_
          refine r_cv1 cd_F_behind_10 rfl ck_F_behind_F_isBit rfl (Nat.le_of_ble_eq_true rfl) (sp_isBit hx) ?_
          refine r_ifne_p cd_F_behind_13 (fun c_13 => ?_) (fun c_13 => ?_)
          · skip
            refine r_aload_n cd_F_behind_19 rfl ?_
            refine r_vv0 cd_F_behind_20 rfl ck_F_behind_F_playsThrough (Nat.le_of_ble_eq_true rfl) hp_0 rfl hS ?_
            refine r_if_ne cd_F_behind_23 ⟨by decide, by decide⟩ (fun c_23 => absurd c_23 (by decide)) (fun _ => ?_)
            refine r_bipush cd_F_behind_26 ?_
            exact r_iret cd_F_behind_28 rt_F_behind (by rfl) (by rfl)
          · skip
            refine r_bipush cd_F_behind_16 ?_
            exact absurd z1 c_13
        · skip
          refine r_iconst cd_F_behind_7 ?_
          exact absurd z0 c_4
    · refine ⟨pl, pk, pr, pn, ac, st, re, fg, we, ⟨hp0.2.2.2.1, he⟩, ?_⟩
      unfold beA
      rw [if_pos z0, if_neg z1]
      refine en_F_behind ?_
      refine r_iload_n cd_F_behind_0 rfl ?_
      refine r_cv1 cd_F_behind_1 rfl ck_F_behind_Rods_isRod rfl (Nat.le_of_ble_eq_true rfl) (sp_Rods_isRod hq) ?_
      refine r_ifne_p cd_F_behind_4 (fun c_4 => ?_) (fun c_4 => ?_)
      · skip
        refine r_iload_n cd_F_behind_9 rfl ?_
        refine r_cv1 cd_F_behind_10 rfl ck_F_behind_F_isBit rfl (Nat.le_of_ble_eq_true rfl) (sp_isBit hx) ?_
        refine r_ifne_p cd_F_behind_13 (fun c_13 => ?_) (fun c_13 => ?_)
        · skip
          exact absurd c_13 z1
        · skip
          refine r_bipush cd_F_behind_16 ?_
          exact r_iret cd_F_behind_18 rt_F_behind (by rfl) (by rfl)
      · skip
        refine r_iconst cd_F_behind_7 ?_
        exact absurd z0 c_4
  · refine ⟨pl, pk, pr, pn, ac, st, re, fg, we, ⟨hp0.2.2.2.1, he⟩, ?_⟩
    unfold beA
    rw [if_neg z0]
    refine en_F_behind ?_
    refine r_iload_n cd_F_behind_0 rfl ?_
    refine r_cv1 cd_F_behind_1 rfl ck_F_behind_Rods_isRod rfl (Nat.le_of_ble_eq_true rfl) (sp_Rods_isRod hq) ?_
    refine r_ifne_p cd_F_behind_4 (fun c_4 => ?_) (fun c_4 => ?_)
    · skip
      exact absurd c_4 z0
    · skip
      refine r_iconst cd_F_behind_7 ?_
      exact r_iret cd_F_behind_8 rt_F_behind (by rfl) (by rfl)
def thV (v : List Int) (g what : Int) : Int := if what = 0 then at_ v 16 else if what = 1 then at_ v 17 else if what = 2 then (if at_ v 16 = -6 then -6 else pos v (at_ v 16) (at_ v 17)) else if what = 3 then at_ v 18 else if what = 4 then at_ v 19 else if what = 5 then at_ v 20 else g
def thA (w ss : List Int) (cn k r n what : Int) : Int := if 0 ≤ what ∧ what ≤ 6 then (if okB w ss cn k r n = true then thV (ev0 w ss cn k r n).1 (at_ (ev0 w ss cn k r n).2.1 3) what else -5) else -2
theorem sp_F_then {what : Int} (hp0 : PdOK ss cn pl) (hw : WF w) (he : we.length = 21) (hx : inR what) : ∃ a b c d e f g i wE, (0 ≤ a ∧ wE.length = 21) ∧ Sp xs m_F_then [vR 0, vI what] (hp w ss cn pl pk pr pn ac st re fg we pc li sl wt pb sh sd rw sn fd i1 w1 sh1 sd1 rw1 sn1 fd1 i2 w2 sh2 sd2 rw2 sn2 fd2 wd R) (some (vI (thA w ss cn pk pr pn what))) (hp w ss cn a b c d e f g i wE pc li sl wt pb sh sd rw sn fd i1 w1 sh1 sd1 rw1 sn1 fd1 i2 w2 sh2 sd2 rw2 sn2 fd2 wd R) := by
  have hx2 := hx
  obtain ⟨x1, x2⟩ := hx2
  by_cases z1 : 0 ≤ what ∧ what ≤ 6
  · skip
    by_cases z : okB w ss cn pk pr pn = true
    · have zE := okB_iff.mp z
      have hev := ev_ok (pk := pk) (pr := pr) (pn := pn) hw zE.1
      refine ⟨at_ (ev0 w ss cn pk pr pn).2.2 0, at_ (ev0 w ss cn pk pr pn).2.2 1, at_ (ev0 w ss cn pk pr pn).2.2 2, at_ (ev0 w ss cn pk pr pn).2.2 3, at_ (ev0 w ss cn pk pr pn).2.1 0, at_ (ev0 w ss cn pk pr pn).2.1 1, at_ (ev0 w ss cn pk pr pn).2.1 2, at_ (ev0 w ss cn pk pr pn).2.1 3, (ev0 w ss cn pk pr pn).1, ⟨(pd_ev hp0 hw zE.1).2.2.2.1, hev.1.1⟩, ?_⟩
      unfold thA
      rw [if_pos z1, if_pos z]
      have hE : (hp w ss cn (at_ (ev0 w ss cn pk pr pn).2.2 0) (at_ (ev0 w ss cn pk pr pn).2.2 1) (at_ (ev0 w ss cn pk pr pn).2.2 2) (at_ (ev0 w ss cn pk pr pn).2.2 3) (at_ (ev0 w ss cn pk pr pn).2.1 0) (at_ (ev0 w ss cn pk pr pn).2.1 1) (at_ (ev0 w ss cn pk pr pn).2.1 2) (at_ (ev0 w ss cn pk pr pn).2.1 3) ((ev0 w ss cn pk pr pn).1) pc li sl wt pb sh sd rw sn fd i1 w1 sh1 sd1 rw1 sn1 fd1 i2 w2 sh2 sd2 rw2 sn2 fd2 wd R)[6]? = some (eobj (at_ (ev0 w ss cn pk pr pn).2.1 0) (at_ (ev0 w ss cn pk pr pn).2.1 1) (at_ (ev0 w ss cn pk pr pn).2.1 2) (at_ (ev0 w ss cn pk pr pn).2.1 3)) := rfl
      have hT7 : TabAt (hp w ss cn (at_ (ev0 w ss cn pk pr pn).2.2 0) (at_ (ev0 w ss cn pk pr pn).2.2 1) (at_ (ev0 w ss cn pk pr pn).2.2 2) (at_ (ev0 w ss cn pk pr pn).2.2 3) (at_ (ev0 w ss cn pk pr pn).2.1 0) (at_ (ev0 w ss cn pk pr pn).2.1 1) (at_ (ev0 w ss cn pk pr pn).2.1 2) (at_ (ev0 w ss cn pk pr pn).2.1 3) ((ev0 w ss cn pk pr pn).1) pc li sl wt pb sh sd rw sn fd i1 w1 sh1 sd1 rw1 sn1 fd1 i2 w2 sh2 sd2 rw2 sn2 fd2 wd R) 7 (ev0 w ss cn pk pr pn).1 := ⟨rfl, rfl, rfl⟩
      refine en_F_then ?_
      refine r_iload_n cd_F_then_0 rfl ?_
      refine r_iconst cd_F_then_1 ?_
      refine r_bipush cd_F_then_2 ?_
      refine r_cv3 cd_F_then_4 rfl ck_F_then_F_isWithin rfl (Nat.le_of_ble_eq_true rfl) (sp_isWithin hx ⟨by decide, by decide⟩ ⟨by decide, by decide⟩) ?_
      refine r_ifne_p cd_F_then_7 (fun c_7 => ?_) (fun c_7 => ?_)
      · skip
        refine r_aload_n cd_F_then_13 rfl ?_
        refine r_vv0 cd_F_then_14 rfl ck_F_then_F_playsThrough (Nat.le_of_ble_eq_true rfl) (by first | exact hp_0 | rfl) rfl (sp_pt_y hp0 hw he zE) ?_
        refine r_if_ne cd_F_then_17 ⟨by decide, by decide⟩ (fun _ => ?_) (fun c_17 => absurd c_17 (by decide))
        refine r_aload_n cd_F_then_23 rfl ?_
        refine r_getfield cd_F_then_24 (by first | exact hp_0 | rfl) rfl ?_
        refine r_vv0 cd_F_then_27 rfl ck_F_then_Evening_table (Nat.le_of_ble_eq_true rfl) hE rfl (sp_table hE) ?_
        refine r_astoren3_2 cd_F_then_30 rfl ?_
        refine r_iload_n cd_F_then_31 rfl ?_
        by_cases s_32_0 : what = 0
        · skip
          rw [s_32_0]
          refine r_switch (t := 72) cd_F_then_32 ⟨by decide, by decide⟩ (by decide) ?_
          refine r_aload_n cd_F_then_72 rfl ?_
          refine r_vv0 cd_F_then_73 rfl ck_F_then_Table_ballRod (Nat.le_of_ble_eq_true rfl) hT7.1 rfl (sp_ballRod hT7) ?_
          exact r_iret cd_F_then_76 rt_F_then (by first | rfl | (unfold thV; rw [if_neg (by omega), if_neg (by omega), if_neg (by omega), if_neg (by omega), if_neg (by omega), if_neg (by omega)])) (by rfl)
        by_cases s_32_1 : what = 1
        · skip
          rw [s_32_1]
          refine r_switch (t := 77) cd_F_then_32 ⟨by decide, by decide⟩ (by decide) ?_
          refine r_aload_n cd_F_then_77 rfl ?_
          refine r_vv0 cd_F_then_78 rfl ck_F_then_Table_ballMan (Nat.le_of_ble_eq_true rfl) hT7.1 rfl (sp_ballMan hT7) ?_
          exact r_iret cd_F_then_81 rt_F_then (by first | rfl | (unfold thV; rw [if_neg (by omega), if_neg (by omega), if_neg (by omega), if_neg (by omega), if_neg (by omega), if_neg (by omega)])) (by rfl)
        by_cases s_32_2 : what = 2
        · skip
          rw [s_32_2]
          refine r_switch (t := 82) cd_F_then_32 ⟨by decide, by decide⟩ (by decide) ?_
          refine r_aload_n cd_F_then_82 rfl ?_
          refine r_vv0 cd_F_then_83 rfl ck_F_then_Table_ballPlace (Nat.le_of_ble_eq_true rfl) hT7.1 rfl (sp_ballPlace hT7 hev.1) ?_
          exact r_iret cd_F_then_86 rt_F_then (by first | rfl | (unfold thV; rw [if_neg (by omega), if_neg (by omega), if_neg (by omega), if_neg (by omega), if_neg (by omega), if_neg (by omega)])) (by rfl)
        by_cases s_32_3 : what = 3
        · skip
          rw [s_32_3]
          refine r_switch (t := 87) cd_F_then_32 ⟨by decide, by decide⟩ (by decide) ?_
          refine r_aload_n cd_F_then_87 rfl ?_
          refine r_iconst cd_F_then_88 ?_
          refine r_vv1 cd_F_then_89 rfl ck_F_then_Table_scoredBy (Nat.le_of_ble_eq_true rfl) hT7.1 rfl (sp_sc0 hT7) ?_
          exact r_iret cd_F_then_92 rt_F_then (by first | rfl | (unfold thV; rw [if_neg (by omega), if_neg (by omega), if_neg (by omega), if_neg (by omega), if_neg (by omega), if_neg (by omega)])) (by rfl)
        by_cases s_32_4 : what = 4
        · skip
          rw [s_32_4]
          refine r_switch (t := 93) cd_F_then_32 ⟨by decide, by decide⟩ (by decide) ?_
          refine r_aload_n cd_F_then_93 rfl ?_
          refine r_iconst cd_F_then_94 ?_
          refine r_vv1 cd_F_then_95 rfl ck_F_then_Table_scoredBy (Nat.le_of_ble_eq_true rfl) hT7.1 rfl (sp_sc1 hT7) ?_
          exact r_iret cd_F_then_98 rt_F_then (by first | rfl | (unfold thV; rw [if_neg (by omega), if_neg (by omega), if_neg (by omega), if_neg (by omega), if_neg (by omega), if_neg (by omega)])) (by rfl)
        by_cases s_32_5 : what = 5
        · skip
          rw [s_32_5]
          refine r_switch (t := 99) cd_F_then_32 ⟨by decide, by decide⟩ (by decide) ?_
          refine r_aload_n cd_F_then_99 rfl ?_
          refine r_vv0 cd_F_then_100 rfl ck_F_then_Table_tenth (Nat.le_of_ble_eq_true rfl) hT7.1 rfl (sp_tenth hT7) ?_
          exact r_iret cd_F_then_103 rt_F_then (by first | rfl | (unfold thV; rw [if_neg (by omega), if_neg (by omega), if_neg (by omega), if_neg (by omega), if_neg (by omega), if_neg (by omega)])) (by rfl)
        refine r_switch (t := 104) cd_F_then_32 ⟨by omega, by omega⟩ (by unfold swT; rw [if_pos (by omega)]; rfl) ?_
        refine r_aload_n cd_F_then_104 rfl ?_
        refine r_getfield cd_F_then_105 (by first | exact hp_0 | rfl) rfl ?_
        refine r_vv0 cd_F_then_108 rfl ck_F_then_Evening_firstGoal (Nat.le_of_ble_eq_true rfl) hE rfl (sp_firstGoal hE) ?_
        exact r_iret cd_F_then_111 rt_F_then (by first | rfl | (unfold thV; rw [if_neg (by omega), if_neg (by omega), if_neg (by omega), if_neg (by omega), if_neg (by omega), if_neg (by omega)])) (by rfl)
      · skip
        refine r_bipush cd_F_then_10 ?_
        exact absurd z1 c_7
    · have zE : ¬ okE w ss cn pk pr pn := fun q => z (okB_iff.mpr q)
      obtain ⟨a, b, c, d, e, f, g, i, wE, j, hS⟩ := sp_pt_n (xs := xs) (ac := ac) (st := st) (re := re) (fg := fg) (pc := pc) (li := li) (sl := sl) (wt := wt) (pb := pb) (sh := sh) (sd := sd) (rw := rw) (sn := sn) (fd := fd) (i1 := i1) (w1 := w1) (sh1 := sh1) (sd1 := sd1) (rw1 := rw1) (sn1 := sn1) (fd1 := fd1) (i2 := i2) (w2 := w2) (sh2 := sh2) (sd2 := sd2) (rw2 := rw2) (sn2 := sn2) (fd2 := fd2) (wd := wd) (R := R) hp0 hw he zE
      refine ⟨a, b, c, d, e, f, g, i, wE, j, ?_⟩
      unfold thA
      rw [if_pos z1, if_neg z]
      refine en_F_then ?_
      refine r_iload_n cd_F_then_0 rfl ?_
      refine r_iconst cd_F_then_1 ?_
      refine r_bipush cd_F_then_2 ?_
      refine r_cv3 cd_F_then_4 rfl ck_F_then_F_isWithin rfl (Nat.le_of_ble_eq_true rfl) (sp_isWithin hx ⟨by decide, by decide⟩ ⟨by decide, by decide⟩) ?_
      refine r_ifne_p cd_F_then_7 (fun c_7 => ?_) (fun c_7 => ?_)
      · skip
        refine r_aload_n cd_F_then_13 rfl ?_
        refine r_vv0 cd_F_then_14 rfl ck_F_then_F_playsThrough (Nat.le_of_ble_eq_true rfl) hp_0 rfl hS ?_
        refine r_if_ne cd_F_then_17 ⟨by decide, by decide⟩ (fun c_17 => absurd c_17 (by decide)) (fun _ => ?_)
        refine r_bipush cd_F_then_20 ?_
        exact r_iret cd_F_then_22 rt_F_then (by rfl) (by rfl)
      · skip
        refine r_bipush cd_F_then_10 ?_
        exact absurd z1 c_7
  · refine ⟨pl, pk, pr, pn, ac, st, re, fg, we, ⟨hp0.2.2.2.1, he⟩, ?_⟩
    unfold thA
    rw [if_neg z1]
    refine en_F_then ?_
    refine r_iload_n cd_F_then_0 rfl ?_
    refine r_iconst cd_F_then_1 ?_
    refine r_bipush cd_F_then_2 ?_
    refine r_cv3 cd_F_then_4 rfl ck_F_then_F_isWithin rfl (Nat.le_of_ble_eq_true rfl) (sp_isWithin hx ⟨by decide, by decide⟩ ⟨by decide, by decide⟩) ?_
    refine r_ifne_p cd_F_then_7 (fun c_7 => ?_) (fun c_7 => ?_)
    · skip
      exact absurd c_7 z1
    · skip
      refine r_bipush cd_F_then_10 ?_
      exact r_iret cd_F_then_12 rt_F_then (by rfl) (by rfl)
def enA (w : List Int) (d : Int) : Int := if -9 ≤ d ∧ d ≤ 9 then (if at_ w 16 = -6 then -3 else shot w d / 10) else -2
theorem shot_nn {d : Int} (hw : WF w) (ha : at_ w 16 ≠ -6) : 0 ≤ shot w d ∧ shot w d ≤ 80 := by
  rcases shot_bd (d := d) hw ha with z | z
  · omega
  · exact ⟨z.1, by have := z.2.1; omega⟩
theorem sp_F_ends {d : Int} (hw : WF w) (hd : inR d) : Sp xs m_F_ends [vR 0, vI d] (hp w ss cn pl pk pr pn ac st re fg we pc li sl wt pb sh sd rw sn fd i1 w1 sh1 sd1 rw1 sn1 fd1 i2 w2 sh2 sd2 rw2 sn2 fd2 wd R) (some (vI (enA w d))) (hp w ss cn pl pk pr pn ac st re fg we pc li sl wt pb sh sd rw sn fd i1 w1 sh1 sd1 rw1 sn1 fd1 i2 w2 sh2 sd2 rw2 sn2 fd2 wd R) := by
  unfold enA
  have hsh := fun (a : at_ w 16 ≠ -6) => shot_nn (d := d) hw a
  refine en_F_ends ?_
  refine r_iload_n cd_F_ends_0 rfl ?_
  refine r_bipush cd_F_ends_1 ?_
  refine r_bipush cd_F_ends_3 ?_
  refine r_cv3 cd_F_ends_5 rfl ck_F_ends_F_isWithin rfl (Nat.le_of_ble_eq_true rfl) (sp_isWithin hd ⟨by decide, by decide⟩ ⟨by decide, by decide⟩) ?_
  refine r_ifne_p cd_F_ends_8 (fun c_8 => ?_) (fun c_8 => ?_)
  · skip
    refine r_aload_n cd_F_ends_14 rfl ?_
    refine r_getfield cd_F_ends_15 hp_0 rfl ?_
    refine r_vv0 cd_F_ends_18 rfl ck_F_ends_Table_isDead (Nat.le_of_ble_eq_true rfl) hp_T.1 rfl (sp_isDead hp_T hw) ?_
    refine r_ifeq_p cd_F_ends_21 (fun c_21 => ?_) (fun c_21 => ?_)
    · skip
      refine r_aload_n cd_F_ends_27 rfl ?_
      refine r_getfield cd_F_ends_28 hp_0 rfl ?_
      refine r_iload_n cd_F_ends_31 rfl ?_
      refine r_vv1 cd_F_ends_32 rfl ck_F_ends_Table_shotEnd (Nat.le_of_ble_eq_true rfl) hp_T.1 rfl (sp_shotEnd hp_T hw c_21 c_8.1 c_8.2) ?_
      refine r_bipush cd_F_ends_35 ?_
      refine r_idiv cd_F_ends_37 ⟨by (have := hsh c_21; omega), by (have := hsh c_21; omega)⟩ ⟨by decide, by decide⟩ (by decide) ?_
      exact r_iret cd_F_ends_38 rt_F_ends (by rw [if_pos c_8, if_neg c_21, Int.tdiv_eq_ediv_of_nonneg (hsh c_21).1]) (by rfl)
    · skip
      refine r_bipush cd_F_ends_24 ?_
      exact r_iret cd_F_ends_26 rt_F_ends (by rw [if_pos c_8, if_pos c_21]) (by rfl)
  · skip
    refine r_bipush cd_F_ends_11 ?_
    exact r_iret cd_F_ends_13 rt_F_ends (by rw [if_neg c_8]) (by rfl)
def inB (w : List Int) : Int → Bool := fun d => decide (shot w d = 80)
def giA (w : List Int) : Int := if at_ w 16 = -6 then -3 else (bsN (inB w) 19 : Nat)
theorem lp_F_goesIn (hw : WF w) (ha : at_ w 16 ≠ -6) : ∀ (k n : Nat), n + k = 19 → Rn xs m_F_goesIn 18 [vR 0, vI (bsN (inB w) n : Nat), vI ((n : Int) - 9)] [] (hp w ss cn pl pk pr pn ac st re fg we pc li sl wt pb sh sd rw sn fd i1 w1 sh1 sd1 rw1 sn1 fd1 i2 w2 sh2 sd2 rw2 sn2 fd2 wd R) (some (vI (bsN (inB w) 19 : Nat))) (hp w ss cn pl pk pr pn ac st re fg we pc li sl wt pb sh sd rw sn fd i1 w1 sh1 sd1 rw1 sn1 fd1 i2 w2 sh2 sd2 rw2 sn2 fd2 wd R) := by
  intro k
  induction k with
  | zero =>
    intro n h1
    have : n = 19 := by omega
    subst this
    refine r_iload_n cd_F_goesIn_18 rfl ?_
    refine r_bipush cd_F_goesIn_19 ?_
    refine r_icmp_gt cd_F_goesIn_21 ⟨by omega, by omega⟩ ⟨by decide, by decide⟩ (fun c_21 => ?_) (fun c_21 => ?_)
    · skip
      refine r_iload_n cd_F_goesIn_50 rfl ?_
      exact r_iret cd_F_goesIn_51 rt_F_goesIn (by first | rfl | omega | (split <;> first | rfl | omega)) (by rfl)
    · skip
      omega
  | succ k ih =>
    intro n h1
    have hsh := shot_nn (d := (n : Int) - 9) hw ha
    refine r_iload_n cd_F_goesIn_18 rfl ?_
    refine r_bipush cd_F_goesIn_19 ?_
    refine r_icmp_gt cd_F_goesIn_21 ⟨by omega, by omega⟩ ⟨by decide, by decide⟩ (fun c_21 => ?_) (fun c_21 => ?_)
    · skip
      omega
    · skip
      refine r_aload_n cd_F_goesIn_24 rfl ?_
      refine r_getfield cd_F_goesIn_25 hp_0 rfl ?_
      refine r_iload_n cd_F_goesIn_28 rfl ?_
      refine r_vv1 cd_F_goesIn_29 rfl ck_F_goesIn_Table_shotEnd (Nat.le_of_ble_eq_true rfl) hp_T.1 rfl (sp_shotEnd hp_T hw ha (by omega) (by omega)) ?_
      refine r_bipush cd_F_goesIn_32 ?_
      refine r_icmp_ne cd_F_goesIn_34 ⟨by omega, by omega⟩ ⟨by decide, by decide⟩ (fun c_34 => ?_) (fun c_34 => ?_)
      · skip
        refine r_iinc3_2 cd_F_goesIn_44 rfl ?_
        refine r_goto cd_F_goesIn_47 ?_
        (have e9 := ih (n + 1) (by omega); rw [show ((n + 1 : Nat) : Int) - 9 = (n : Int) - 9 + 1 by omega] at e9; first | (rw [bsN_t (by omega) (decide_eq_true c_34)] at e9; exact e9) | (rw [bsN_f (fun z => c_34 (of_decide_eq_true z))] at e9; exact e9))
      · skip
        refine r_iload_n cd_F_goesIn_37 rfl ?_
        refine r_iload_n cd_F_goesIn_38 rfl ?_
        refine r_cv1 cd_F_goesIn_39 rfl ck_F_goesIn_F_shotBit rfl (Nat.le_of_ble_eq_true rfl) (sp_shotBit (by omega)) ?_
        refine r_ior cd_F_goesIn_42 ?_
        refine r_istoren3_1 cd_F_goesIn_43 rfl ?_
        refine r_iinc3_2 cd_F_goesIn_44 rfl ?_
        refine r_goto cd_F_goesIn_47 ?_
        (have e9 := ih (n + 1) (by omega); rw [show ((n + 1 : Nat) : Int) - 9 = (n : Int) - 9 + 1 by omega] at e9; first | (rw [bsN_t (by omega) (decide_eq_true c_34)] at e9; exact e9) | (rw [bsN_f (fun z => c_34 (of_decide_eq_true z))] at e9; exact e9))
theorem sp_F_goesIn (hw : WF w) : Sp xs m_F_goesIn [vR 0] (hp w ss cn pl pk pr pn ac st re fg we pc li sl wt pb sh sd rw sn fd i1 w1 sh1 sd1 rw1 sn1 fd1 i2 w2 sh2 sd2 rw2 sn2 fd2 wd R) (some (vI (giA w))) (hp w ss cn pl pk pr pn ac st re fg we pc li sl wt pb sh sd rw sn fd i1 w1 sh1 sd1 rw1 sn1 fd1 i2 w2 sh2 sd2 rw2 sn2 fd2 wd R) := by
  unfold giA
  refine en_F_goesIn ?_
  refine r_aload_n cd_F_goesIn_0 rfl ?_
  refine r_getfield cd_F_goesIn_1 hp_0 rfl ?_
  refine r_vv0 cd_F_goesIn_4 rfl ck_F_goesIn_Table_isDead (Nat.le_of_ble_eq_true rfl) hp_T.1 rfl (sp_isDead hp_T hw) ?_
  refine r_ifeq_p cd_F_goesIn_7 (fun c_7 => ?_) (fun c_7 => ?_)
  · skip
    refine r_iconst cd_F_goesIn_13 ?_
    refine r_istoren3_1 cd_F_goesIn_14 rfl ?_
    refine r_bipush cd_F_goesIn_15 ?_
    refine r_istoren3_2 cd_F_goesIn_17 rfl ?_
    (rw [if_neg c_7]; exact lp_F_goesIn hw c_7 19 0 (by omega))
  · skip
    refine r_bipush cd_F_goesIn_10 ?_
    exact r_iret cd_F_goesIn_12 rt_F_goesIn (by rw [if_pos c_7]) (by rfl)
def paA (w : List Int) (r m what : Int) : Int := if 0 ≤ m ∧ 0 ≤ r ∧ r < 8 ∧ m < men r then (if what = 0 ∨ what = 1 then (if at_ w 16 = -6 then -3 else if sid r ≠ sid (at_ w 16) then -6 else if what = 0 then frm (cnt w (10 * r + m)) (10 * at_ w 16 + at_ w 17) else if frm (cnt w (10 * r + m)) (10 * at_ w 16 + at_ w 17) - 1 < 0 then -6 else ffA w (cnt w (10 * r + m)) (10 * at_ w 16 + at_ w 17) (frm (cnt w (10 * r + m)) (10 * at_ w 16 + at_ w 17) - 1) 10 0 (-6)) else -2) else -1
theorem sp_F_path {r m what : Int} (hw : WF w) (hpc : CB pc) (hr : inR r) (hm : inR m) (hx : inR what) : ∃ pc', CB pc' ∧ Sp xs m_F_path [vR 0, vI r, vI m, vI what] (hp w ss cn pl pk pr pn ac st re fg we pc li sl wt pb sh sd rw sn fd i1 w1 sh1 sd1 rw1 sn1 fd1 i2 w2 sh2 sd2 rw2 sn2 fd2 wd R) (some (vI (paA w r m what))) (hp w ss cn pl pk pr pn ac st re fg we pc' li sl wt pb sh sd rw sn fd i1 w1 sh1 sd1 rw1 sn1 fd1 i2 w2 sh2 sd2 rw2 sn2 fd2 wd R) := by
  have hx2 := hx
  obtain ⟨x1, x2⟩ := hx2
  by_cases z1 : (0 ≤ m ∧ 0 ≤ r ∧ r < 8 ∧ m < men r) ∧ (what = 0 ∨ what = 1) ∧ at_ w 16 ≠ -6 ∧ sid r = sid (at_ w 16)
  · obtain ⟨y1, y2, y3, y4⟩ := z1
    have hmb := men_bd y1.2.1 y1.2.2.1
    obtain ⟨a1, a2, a3, a4⟩ := alive_bd hw y3
    have hmb2 := men_bd a1 a2
    have hc := cnt_CB (w := w) (tg := 10 * r + m)
    refine ⟨cnt w (10 * r + m), hc, ?_⟩
    unfold paA
    rw [if_pos y1, if_pos y2, if_neg y3, if_neg (fun z => z y4)]
    have hs1 := sid_bd y1.2.1 y1.2.2.1
    have hs2 := sid_bd a1 a2
    have hT2 : TabAt (hp w ss cn pl pk pr pn ac st re fg we (cnt w (10 * r + m)) li sl wt pb sh sd rw sn fd i1 w1 sh1 sd1 rw1 sn1 fd1 i2 w2 sh2 sd2 rw2 sn2 fd2 wd R) 1 w := ⟨rfl, rfl, rfl⟩
    have hQ2 : PassAt (hp w ss cn pl pk pr pn ac st re fg we (cnt w (10 * r + m)) li sl wt pb sh sd rw sn fd i1 w1 sh1 sd1 rw1 sn1 fd1 i2 w2 sh2 sd2 rw2 sn2 fd2 wd R) (cnt w (10 * r + m)) := ⟨rfl, rfl⟩
    have sCt : Sp xs m_Passes_countTo [vR 10, vR 1, vI (10 * r + m)] (hp w ss cn pl pk pr pn ac st re fg we pc li sl wt pb sh sd rw sn fd i1 w1 sh1 sd1 rw1 sn1 fd1 i2 w2 sh2 sd2 rw2 sn2 fd2 wd R) none (hp w ss cn pl pk pr pn ac st re fg we (cnt w (10 * r + m)) li sl wt pb sh sd rw sn fd i1 w1 sh1 sd1 rw1 sn1 fd1 i2 w2 sh2 sd2 rw2 sn2 fd2 wd R) := sp_countTo (by omega) (by have := y1.2.2.2; omega) hp_T hw hp_Q hpc
    refine en_F_path ?_
    refine r_iload_n cd_F_path_0 rfl ?_
    refine r_iload_n cd_F_path_1 rfl ?_
    refine r_cv2 cd_F_path_2 rfl ck_F_path_Rods_isMan rfl (Nat.le_of_ble_eq_true rfl) (sp_Rods_isMan hr hm) ?_
    refine r_ifne_p cd_F_path_5 (fun c_5 => ?_) (fun c_5 => ?_)
    · skip
      refine r_iload_n cd_F_path_10 rfl ?_
      refine r_cv1 cd_F_path_11 rfl ck_F_path_F_isBit rfl (Nat.le_of_ble_eq_true rfl) (sp_isBit hx) ?_
      refine r_ifne_p cd_F_path_14 (fun c_14 => ?_) (fun c_14 => ?_)
      · skip
        refine r_aload_n cd_F_path_20 rfl ?_
        refine r_getfield cd_F_path_21 (by first | exact hp_0 | rfl) rfl ?_
        refine r_vv0 cd_F_path_24 rfl ck_F_path_Table_isDead (Nat.le_of_ble_eq_true rfl) (by first | exact hp_T.1 | rfl) rfl (sp_isDead hp_T hw) ?_
        refine r_ifeq_p cd_F_path_27 (fun c_27 => ?_) (fun c_27 => ?_)
        · skip
          refine r_iload_n cd_F_path_33 rfl ?_
          refine r_cv1 cd_F_path_34 rfl ck_F_path_Rods_sideOf rfl (Nat.le_of_ble_eq_true rfl) (sp_sid y1.2.1 y1.2.2.1) ?_
          refine r_aload_n cd_F_path_37 rfl ?_
          refine r_getfield cd_F_path_38 (by first | exact hp_0 | rfl) rfl ?_
          refine r_vv0 cd_F_path_41 rfl ck_F_path_Table_ballRod (Nat.le_of_ble_eq_true rfl) (by first | exact hp_T.1 | rfl) rfl (sp_ballRod hp_T) ?_
          refine r_cv1 cd_F_path_44 rfl ck_F_path_Rods_sideOf rfl (Nat.le_of_ble_eq_true rfl) (sp_sid a1 a2) ?_
          refine r_icmp_eq cd_F_path_47 ⟨by omega, by omega⟩ ⟨by omega, by omega⟩ (fun c_47 => ?_) (fun c_47 => ?_)
          · skip
            refine r_aload_n cd_F_path_53 rfl ?_
            refine r_getfield cd_F_path_54 (by first | exact hp_0 | rfl) rfl ?_
            refine r_aload_n cd_F_path_57 rfl ?_
            refine r_getfield cd_F_path_58 (by first | exact hp_0 | rfl) rfl ?_
            refine r_bipush cd_F_path_61 ?_
            refine r_iload_n cd_F_path_63 rfl ?_
            refine r_imul cd_F_path_64 ?_
            refine r_iload_n cd_F_path_65 rfl ?_
            refine r_iadd cd_F_path_66 ?_
            refine r_vz2 cd_F_path_67 rfl ck_F_path_Passes_countTo (Nat.le_of_ble_eq_true rfl) hp_Q.1 rfl sCt ?_
            refine r_bipush cd_F_path_70 ?_
            refine r_aload_n cd_F_path_72 rfl ?_
            refine r_getfield cd_F_path_73 (by first | exact hp_0 | rfl) rfl ?_
            refine r_vv0 cd_F_path_76 rfl ck_F_path_Table_ballRod (Nat.le_of_ble_eq_true rfl) (by first | exact hp_T.1 | rfl) rfl (sp_ballRod hT2) ?_
            refine r_imul cd_F_path_79 ?_
            refine r_aload_n cd_F_path_80 rfl ?_
            refine r_getfield cd_F_path_81 (by first | exact hp_0 | rfl) rfl ?_
            refine r_vv0 cd_F_path_84 rfl ck_F_path_Table_ballMan (Nat.le_of_ble_eq_true rfl) (by first | exact hp_T.1 | rfl) rfl (sp_ballMan hT2) ?_
            refine r_iadd cd_F_path_87 ?_
            refine r_istore5_4 cd_F_path_88 rfl ?_
            refine r_iload_n cd_F_path_90 rfl ?_
            refine r_if_ne cd_F_path_91 ⟨by omega, by omega⟩ (fun c_91 => ?_) (fun c_91 => ?_)
            · skip
              refine r_aload_n cd_F_path_106 rfl ?_
              refine r_getfield cd_F_path_107 (by first | exact hp_0 | rfl) rfl ?_
              refine r_aload_n cd_F_path_110 rfl ?_
              refine r_getfield cd_F_path_111 (by first | exact hp_0 | rfl) rfl ?_
              refine r_iload cd_F_path_114 rfl ?_
              refine r_vv2 cd_F_path_116 rfl ck_F_path_Passes_firstFrom (Nat.le_of_ble_eq_true rfl) hQ2.1 rfl (sp_firstFrom hT2 hw hQ2 hc (by omega) (by omega)) ?_
              exact r_iret cd_F_path_119 rt_F_path (by first | (rw [if_pos c_91]; done) | (rw [if_neg c_91]; done)) (by rfl)
            · skip
              refine r_aload_n cd_F_path_94 rfl ?_
              refine r_getfield cd_F_path_95 (by first | exact hp_0 | rfl) rfl ?_
              refine r_iload cd_F_path_98 rfl ?_
              refine r_vv1 cd_F_path_100 rfl ck_F_path_Passes_from (Nat.le_of_ble_eq_true rfl) hQ2.1 rfl (sp_from hQ2 hc (by constructor <;> omega)) ?_
              refine r_goto cd_F_path_103 ?_
              exact r_iret cd_F_path_119 rt_F_path (by first | (rw [if_pos c_91]; done) | (rw [if_neg c_91]; done)) (by rfl)
          · skip
            exact absurd y4 c_47
        · skip
          exact absurd c_27 y3
      · skip
        refine r_bipush cd_F_path_17 ?_
        exact absurd y2 c_14
    · skip
      exact absurd y1 c_5
  · refine ⟨pc, hpc, ?_⟩
    unfold paA
    have hs1 := fun (a : 0 ≤ r) (b : r < 8) => sid_bd a b
    have hal := fun (a : at_ w 16 ≠ -6) => alive_bd hw a
    have hs2 := fun (a : at_ w 16 ≠ -6) => sid_bd (hal a).1 (hal a).2.1
    refine en_F_path ?_
    refine r_iload_n cd_F_path_0 rfl ?_
    refine r_iload_n cd_F_path_1 rfl ?_
    refine r_cv2 cd_F_path_2 rfl ck_F_path_Rods_isMan rfl (Nat.le_of_ble_eq_true rfl) (sp_Rods_isMan hr hm) ?_
    refine r_ifne_p cd_F_path_5 (fun c_5 => ?_) (fun c_5 => ?_)
    · skip
      refine r_iload_n cd_F_path_10 rfl ?_
      refine r_cv1 cd_F_path_11 rfl ck_F_path_F_isBit rfl (Nat.le_of_ble_eq_true rfl) (sp_isBit hx) ?_
      refine r_ifne_p cd_F_path_14 (fun c_14 => ?_) (fun c_14 => ?_)
      · skip
        refine r_aload_n cd_F_path_20 rfl ?_
        refine r_getfield cd_F_path_21 hp_0 rfl ?_
        refine r_vv0 cd_F_path_24 rfl ck_F_path_Table_isDead (Nat.le_of_ble_eq_true rfl) hp_T.1 rfl (sp_isDead hp_T hw) ?_
        refine r_ifeq_p cd_F_path_27 (fun c_27 => ?_) (fun c_27 => ?_)
        · skip
          refine r_iload_n cd_F_path_33 rfl ?_
          refine r_cv1 cd_F_path_34 rfl ck_F_path_Rods_sideOf rfl (Nat.le_of_ble_eq_true rfl) (sp_sid c_5.2.1 c_5.2.2.1) ?_
          refine r_aload_n cd_F_path_37 rfl ?_
          refine r_getfield cd_F_path_38 hp_0 rfl ?_
          refine r_vv0 cd_F_path_41 rfl ck_F_path_Table_ballRod (Nat.le_of_ble_eq_true rfl) hp_T.1 rfl (sp_ballRod hp_T) ?_
          refine r_cv1 cd_F_path_44 rfl ck_F_path_Rods_sideOf rfl (Nat.le_of_ble_eq_true rfl) (sp_sid (hal c_27).1 (hal c_27).2.1) ?_
          refine r_icmp_eq cd_F_path_47 ⟨by (have q1 := hs1 c_5.2.1 c_5.2.2.1; have q2 := hs2 c_27; omega), by (have q1 := hs1 c_5.2.1 c_5.2.2.1; have q2 := hs2 c_27; omega)⟩ ⟨by (have q1 := hs1 c_5.2.1 c_5.2.2.1; have q2 := hs2 c_27; omega), by (have q1 := hs1 c_5.2.1 c_5.2.2.1; have q2 := hs2 c_27; omega)⟩ (fun c_47 => ?_) (fun c_47 => ?_)
          · skip
            exact absurd ⟨c_5, c_14, c_27, c_47⟩ z1
          · skip
            refine r_bipush cd_F_path_50 ?_
            exact r_iret cd_F_path_52 rt_F_path (by rw [if_pos c_5, if_pos c_14, if_neg c_27, if_pos c_47]) (by rfl)
        · skip
          refine r_bipush cd_F_path_30 ?_
          exact r_iret cd_F_path_32 rt_F_path (by rw [if_pos c_5, if_pos c_14, if_pos c_27]) (by rfl)
      · skip
        refine r_bipush cd_F_path_17 ?_
        exact r_iret cd_F_path_19 rt_F_path (by rw [if_pos c_5, if_neg c_14]) (by rfl)
    · skip
      refine r_iconst cd_F_path_8 ?_
      exact r_iret cd_F_path_9 rt_F_path (by rw [if_neg c_5]) (by rfl)
def sdA (w : List Int) (what : Int) (pb : List Int) (sl : Int) : Int := if what = 0 ∨ what = 1 then (if at_ w 16 = -6 then -3 else if what = 0 then (kpA (setw w (bk (1 - sid (at_ w 16))) 24) (bkA w (1 - sid (at_ w 16)) 25 0 pb) (1 - sid (at_ w 16)) 41 0 20 sl).1 else (kpA (setw w (bk (1 - sid (at_ w 16))) 24) (bkA w (1 - sid (at_ w 16)) 25 0 pb) (1 - sid (at_ w 16)) 41 0 20 sl).2) else -2
theorem sp_letIn {h : MH} (hD : h[12]? = some (dobj li sl)) : Sp xs m_Defence_letIn [vR 12] h (some (vI li)) h := by
  refine en_Defence_letIn ?_
  refine r_aload_n cd_Defence_letIn_0 rfl ?_
  refine r_getfield cd_Defence_letIn_1 hD rfl ?_
  exact r_iret cd_Defence_letIn_4 rt_Defence_letIn (by first | rfl | omega | (split <;> first | rfl | omega)) (by rfl)
theorem sp_slides {h : MH} (hD : h[12]? = some (dobj li sl)) : Sp xs m_Defence_slides [vR 12] h (some (vI sl)) h := by
  refine en_Defence_slides ?_
  refine r_aload_n cd_Defence_slides_0 rfl ?_
  refine r_getfield cd_Defence_slides_1 hD rfl ?_
  exact r_iret cd_Defence_slides_4 rt_Defence_slides (by first | rfl | omega | (split <;> first | rfl | omega)) (by rfl)
theorem sp_F_stand {what : Int} (hw : WF w) (hpb : PB pb) (hwt : wt.length = 21) (hx : inR what) : ∃ li' sl' wt' pb', (PB pb' ∧ wt'.length = 21) ∧ Sp xs m_F_stand [vR 0, vI what] (hp w ss cn pl pk pr pn ac st re fg we pc li sl wt pb sh sd rw sn fd i1 w1 sh1 sd1 rw1 sn1 fd1 i2 w2 sh2 sd2 rw2 sn2 fd2 wd R) (some (vI (sdA w what pb sl))) (hp w ss cn pl pk pr pn ac st re fg we pc li' sl' wt' pb' sh sd rw sn fd i1 w1 sh1 sd1 rw1 sn1 fd1 i2 w2 sh2 sd2 rw2 sn2 fd2 wd R) := by
  have hx2 := hx
  obtain ⟨x1, x2⟩ := hx2
  by_cases z1 : (what = 0 ∨ what = 1) ∧ at_ w 16 ≠ -6
  · obtain ⟨y2, y3⟩ := z1
    obtain ⟨wL, hL, hS⟩ := sp_place (xs := xs) (h := (hp w ss cn pl pk pr pn ac st re fg we pc li sl wt pb sh sd rw sn fd i1 w1 sh1 sd1 rw1 sn1 fd1 i2 w2 sh2 sd2 rw2 sn2 fd2 wd R)) (w := w) (li := li) (sl := sl) (pb := pb) ⟨⟨wt, hp_Tt, hwt⟩, ⟨_, hp_16⟩, ⟨_, hp_12⟩⟩ hp_T hw y3 hpb hp_12 hp_16 rfl
    have hP2 := bkA_PB (w := w) (s := 1 - sid (at_ w 16)) 25 0 pb (by omega) (by omega) hpb
    refine ⟨(kpA (setw w (bk (1 - sid (at_ w 16))) 24) (bkA w (1 - sid (at_ w 16)) 25 0 pb) (1 - sid (at_ w 16)) 41 0 20 sl).1, (kpA (setw w (bk (1 - sid (at_ w 16))) 24) (bkA w (1 - sid (at_ w 16)) 25 0 pb) (1 - sid (at_ w 16)) 41 0 20 sl).2, wL, bkA w (1 - sid (at_ w 16)) 25 0 pb, ⟨hP2, hL⟩, ?_⟩
    unfold sdA
    rw [if_pos y2, if_neg y3]
    generalize kpA (setw w (bk (1 - sid (at_ w 16))) 24) (bkA w (1 - sid (at_ w 16)) 25 0 pb) (1 - sid (at_ w 16)) 41 0 20 sl = K at hS ⊢
    generalize bkA w (1 - sid (at_ w 16)) 25 0 pb = B at hS ⊢
    have hS2 : Sp xs m_Defence_place [vR 12, vR 1] (hp w ss cn pl pk pr pn ac st re fg we pc li sl wt pb sh sd rw sn fd i1 w1 sh1 sd1 rw1 sn1 fd1 i2 w2 sh2 sd2 rw2 sn2 fd2 wd R) none (hp w ss cn pl pk pr pn ac st re fg we pc K.1 K.2 wL B sh sd rw sn fd i1 w1 sh1 sd1 rw1 sn1 fd1 i2 w2 sh2 sd2 rw2 sn2 fd2 wd R) := hS
    have hD2 : (hp w ss cn pl pk pr pn ac st re fg we pc K.1 K.2 wL B sh sd rw sn fd i1 w1 sh1 sd1 rw1 sn1 fd1 i2 w2 sh2 sd2 rw2 sn2 fd2 wd R)[12]? = some (dobj K.1 K.2) := rfl
    refine en_F_stand ?_
    refine r_iload_n cd_F_stand_0 rfl ?_
    refine r_cv1 cd_F_stand_1 rfl ck_F_stand_F_isBit rfl (Nat.le_of_ble_eq_true rfl) (sp_isBit hx) ?_
    refine r_ifne_p cd_F_stand_4 (fun c_4 => ?_) (fun c_4 => ?_)
    · skip
      refine r_aload_n cd_F_stand_10 rfl ?_
      refine r_getfield cd_F_stand_11 (by first | exact hp_0 | rfl) rfl ?_
      refine r_vv0 cd_F_stand_14 rfl ck_F_stand_Table_isDead (Nat.le_of_ble_eq_true rfl) hp_T.1 rfl (sp_isDead hp_T hw) ?_
      refine r_ifeq_p cd_F_stand_17 (fun c_17 => ?_) (fun c_17 => ?_)
      · skip
        refine r_aload_n cd_F_stand_23 rfl ?_
        refine r_getfield cd_F_stand_24 (by first | exact hp_0 | rfl) rfl ?_
        refine r_aload_n cd_F_stand_27 rfl ?_
        refine r_getfield cd_F_stand_28 (by first | exact hp_0 | rfl) rfl ?_
        refine r_vz1 cd_F_stand_31 rfl ck_F_stand_Defence_place (Nat.le_of_ble_eq_true rfl) hp_12 rfl hS2 ?_
        refine r_iload_n cd_F_stand_34 rfl ?_
        refine r_if_ne cd_F_stand_35 ⟨by omega, by omega⟩ (fun c_35 => ?_) (fun c_35 => ?_)
        · skip
          refine r_aload_n cd_F_stand_48 rfl ?_
          refine r_getfield cd_F_stand_49 (by first | exact hp_0 | rfl) rfl ?_
          refine r_vv0 cd_F_stand_52 rfl ck_F_stand_Defence_slides (Nat.le_of_ble_eq_true rfl) hD2 rfl (sp_slides hD2) ?_
          exact r_iret cd_F_stand_55 rt_F_stand (by first | (rw [if_pos c_35]; done) | (rw [if_neg c_35]; done)) (by rfl)
        · skip
          refine r_aload_n cd_F_stand_38 rfl ?_
          refine r_getfield cd_F_stand_39 (by first | exact hp_0 | rfl) rfl ?_
          refine r_vv0 cd_F_stand_42 rfl ck_F_stand_Defence_letIn (Nat.le_of_ble_eq_true rfl) hD2 rfl (sp_letIn hD2) ?_
          refine r_goto cd_F_stand_45 ?_
          exact r_iret cd_F_stand_55 rt_F_stand (by first | (rw [if_pos c_35]; done) | (rw [if_neg c_35]; done)) (by rfl)
      · skip
        exact absurd c_17 y3
    · skip
      refine r_bipush cd_F_stand_7 ?_
      exact absurd y2 c_4
  · refine ⟨li, sl, wt, pb, ⟨hpb, hwt⟩, ?_⟩
    unfold sdA
    refine en_F_stand ?_
    refine r_iload_n cd_F_stand_0 rfl ?_
    refine r_cv1 cd_F_stand_1 rfl ck_F_stand_F_isBit rfl (Nat.le_of_ble_eq_true rfl) (sp_isBit hx) ?_
    refine r_ifne_p cd_F_stand_4 (fun c_4 => ?_) (fun c_4 => ?_)
    · skip
      refine r_aload_n cd_F_stand_10 rfl ?_
      refine r_getfield cd_F_stand_11 hp_0 rfl ?_
      refine r_vv0 cd_F_stand_14 rfl ck_F_stand_Table_isDead (Nat.le_of_ble_eq_true rfl) hp_T.1 rfl (sp_isDead hp_T hw) ?_
      refine r_ifeq_p cd_F_stand_17 (fun c_17 => ?_) (fun c_17 => ?_)
      · skip
        exact absurd ⟨c_4, c_17⟩ z1
      · skip
        refine r_bipush cd_F_stand_20 ?_
        exact r_iret cd_F_stand_22 rt_F_stand (by rw [if_pos c_4, if_pos c_17]) (by rfl)
    · skip
      refine r_bipush cd_F_stand_7 ?_
      exact r_iret cd_F_stand_9 rt_F_stand (by rw [if_neg c_4]) (by rfl)
end C62
