-- the calls on evenings of the class
section C61
variable {xs : List Int} {w ss : List Int} {cn pl pk pr pn ac st re fg : Int} {we pc : List Int} {li sl : Int} {wt pb sh sd rw : List Int} {sn fd i1 : Int} {w1 sh1 sd1 rw1 : List Int} {sn1 fd1 i2 : Int} {w2 sh2 sd2 rw2 : List Int} {sn2 fd2 : Int} {wd : List Int} {R : MH}
theorem rdA_k (pl a b c k k' : Int) : rdA pl a b c k = rdA pl a b c k' ∨ (at_ (rdA pl a b c k) 0 = 0 ∧ at_ (rdA pl a b c k') 0 = 0 ∧ at_ (rdA pl a b c k) 1 = at_ (rdA pl a b c k') 1) := by
  unfold rdA
  by_cases z1 : a = 46
  · rw [if_pos z1, if_pos z1]; exact Or.inl rfl
  rw [if_neg z1, if_neg z1]
  by_cases z2 : a = 112
  · rw [if_pos z2, if_pos z2]; exact Or.inl rfl
  rw [if_neg z2, if_neg z2]
  by_cases z3 : a = 80
  · rw [if_pos z3, if_pos z3]; exact Or.inl rfl
  rw [if_neg z3, if_neg z3]
  by_cases z4 : a = 115
  · rw [if_pos z4, if_pos z4]; exact Or.inl rfl
  rw [if_neg z4, if_neg z4]
  by_cases z5 : a = 33
  · rw [if_pos z5, if_pos z5]; exact Or.inl rfl
  rw [if_neg z5, if_neg z5]
  by_cases z6 : 0 ≤ a - 97 ∧ a - 97 < 8
  · rw [if_pos z6, if_pos z6]
    unfold hdA
    by_cases y1 : b = 40
    · rw [if_pos y1, if_pos y1]; exact Or.inl rfl
    rw [if_neg y1, if_neg y1]
    by_cases y2 : b = 41
    · rw [if_pos y2, if_pos y2]; exact Or.inl rfl
    rw [if_neg y2, if_neg y2]
    by_cases y3 : b = 60
    · rw [if_pos y3, if_pos y3]; exact Or.inl rfl
    rw [if_neg y3, if_neg y3]
    by_cases y4 : b = 62
    · rw [if_pos y4, if_pos y4]; exact Or.inl rfl
    rw [if_neg y4, if_neg y4]
    exact Or.inr ⟨rfl, rfl, rfl⟩
  · rw [if_neg z6, if_neg z6]
    exact Or.inr ⟨rfl, rfl, rfl⟩
theorem faA_k (ss : List Int) (cn : Int) : ∀ (f : Nat) (pl k r n k' r' n' : Int), at_ (faA ss cn f pl k r n) 0 = at_ (faA ss cn f pl k' r' n') 0
  | 0, pl, k, r, n, k', r', n' => rfl
  | f + 1, pl, k, r, n, k', r', n' => by
    have q := rdA_k pl (sg ss cn pl) (sg ss cn (pl + 1)) (sg ss cn (pl + 1 + 1)) k k'
    unfold faA
    by_cases z0 : cn ≤ pl
    · rw [if_pos z0, if_pos z0]; rfl
    rw [if_neg z0, if_neg z0]
    clear z0
    rcases q with q | ⟨q1, q2, q3⟩
    · have e : rdq ss cn pl k = rdq ss cn pl k' := q
      rw [e]
    · have e1 : at_ (rdq ss cn pl k) 0 = 0 := q1
      have e2 : at_ (rdq ss cn pl k') 0 = 0 := q2
      rw [if_pos e1, if_pos e2]
      exact q3
theorem faA_pl (ss : List Int) (cn : Int) : ∀ (f : Nat) (pl k r n : Int), 0 ≤ pl → 0 ≤ at_ (faA ss cn f pl k r n) 1
  | 0, pl, k, r, n, h => h
  | f + 1, pl, k, r, n, h => by
    have q := rdq_pl ss cn pl k
    unfold faA
    split
    · exact h
    · split
      · show 0 ≤ at_ (rdq ss cn pl k) 1
        omega
      · exact faA_pl ss cn f _ _ _ _ (by omega)
def fa0 (ss : List Int) (cn k r n : Int) : List Int := faA ss cn 60 0 k r n
def ev0 (w ss : List Int) (cn k r n : Int) : List Int × List Int × List Int := evA ss cn 60 0 (at_ (fa0 ss cn k r n) 2) (at_ (fa0 ss cn k r n) 3) (at_ (fa0 ss cn k r n) 4) w 0 (-6)
theorem pd_fa {k r n : Int} (hp0 : PdOK ss cn pl) : PdOK ss cn (at_ (fa0 ss cn k r n) 1) := ⟨hp0.1, hp0.2.1, hp0.2.2.1, faA_pl _ _ 60 0 _ _ _ (by omega), hp0.2.2.2.2⟩
theorem sp_F_fault (hp0 : PdOK ss cn pl) : Sp xs m_F_fault [vR 0] (hp w ss cn pl pk pr pn ac st re fg we pc li sl wt pb sh sd rw sn fd i1 w1 sh1 sd1 rw1 sn1 fd1 i2 w2 sh2 sd2 rw2 sn2 fd2 wd R) (some (vI (at_ (fa0 ss cn pk pr pn) 0))) (hp w ss cn (at_ (fa0 ss cn pk pr pn) 1) (at_ (fa0 ss cn pk pr pn) 2) (at_ (fa0 ss cn pk pr pn) 3) (at_ (fa0 ss cn pk pr pn) 4) ac st re fg we pc li sl wt pb sh sd rw sn fd i1 w1 sh1 sd1 rw1 sn1 fd1 i2 w2 sh2 sd2 rw2 sn2 fd2 wd R) := by
  refine en_F_fault ?_
  refine r_aload_n cd_F_fault_0 rfl ?_
  refine r_getfield cd_F_fault_1 hp_0 rfl ?_
  refine r_vv0 cd_F_fault_4 rfl ck_F_fault_Pad_faultPlace (Nat.le_of_ble_eq_true rfl) (hp_P hp0).1 rfl (sp_faultPlace (hp_P hp0)) ?_
  exact r_iret cd_F_fault_7 rt_F_fault (by rfl) (by rfl)
theorem sp_fp (hp0 : PdOK ss cn pl) : Sp xs m_Pad_faultPlace [vR 4] (hp w ss cn pl pk pr pn ac st re fg we pc li sl wt pb sh sd rw sn fd i1 w1 sh1 sd1 rw1 sn1 fd1 i2 w2 sh2 sd2 rw2 sn2 fd2 wd R) (some (vI (at_ (fa0 ss cn pk pr pn) 0))) (hp w ss cn (at_ (fa0 ss cn pk pr pn) 1) (at_ (fa0 ss cn pk pr pn) 2) (at_ (fa0 ss cn pk pr pn) 3) (at_ (fa0 ss cn pk pr pn) 4) ac st re fg we pc li sl wt pb sh sd rw sn fd i1 w1 sh1 sd1 rw1 sn1 fd1 i2 w2 sh2 sd2 rw2 sn2 fd2 wd R) := sp_faultPlace (hp_P hp0)
theorem sp_pl (hp0 : PdOK ss cn pl) (hw : WF w) (he : we.length = 21) (hf : at_ (fa0 ss cn pk pr pn) 0 = -6) : Sp xs m_Evening_play [vR 6, vR 1, vR 4] (hp w ss cn (at_ (fa0 ss cn pk pr pn) 1) (at_ (fa0 ss cn pk pr pn) 2) (at_ (fa0 ss cn pk pr pn) 3) (at_ (fa0 ss cn pk pr pn) 4) ac st re fg we pc li sl wt pb sh sd rw sn fd i1 w1 sh1 sd1 rw1 sn1 fd1 i2 w2 sh2 sd2 rw2 sn2 fd2 wd R) none (hp w ss cn (at_ (ev0 w ss cn pk pr pn).2.2 0) (at_ (ev0 w ss cn pk pr pn).2.2 1) (at_ (ev0 w ss cn pk pr pn).2.2 2) (at_ (ev0 w ss cn pk pr pn).2.2 3) (at_ (ev0 w ss cn pk pr pn).2.1 0) (at_ (ev0 w ss cn pk pr pn).2.1 1) (at_ (ev0 w ss cn pk pr pn).2.1 2) (at_ (ev0 w ss cn pk pr pn).2.1 3) ((ev0 w ss cn pk pr pn).1) pc li sl wt pb sh sd rw sn fd i1 w1 sh1 sd1 rw1 sn1 fd1 i2 w2 sh2 sd2 rw2 sn2 fd2 wd R) :=
  sp_play hp_T hw (hp_P (pd_fa hp0)) hp_E hp_T7 he ((faA_k ss cn 60 0 _ _ _ pk pr pn).trans hf)
theorem ev_ok (hw : WF w) (hf : at_ (fa0 ss cn pk pr pn) 0 = -6) : WF (ev0 w ss cn pk pr pn).1 ∧ 0 ≤ at_ (ev0 w ss cn pk pr pn).2.2 0 ∧ 0 ≤ at_ (ev0 w ss cn pk pr pn).2.1 0 ∧ at_ (ev0 w ss cn pk pr pn).2.1 0 ≤ 0 + (60 : Nat) ∧ (at_ (ev0 w ss cn pk pr pn).2.1 1 = -6 ∨ 0 ≤ at_ (ev0 w ss cn pk pr pn).2.1 1) :=
  evA_wf 60 0 _ _ _ w 0 (-6) (by omega) hw ((faA_k ss cn 60 0 _ _ _ pk pr pn).trans hf) (by omega)
theorem pd_ev (hp0 : PdOK ss cn pl) (hw : WF w) (hf : at_ (fa0 ss cn pk pr pn) 0 = -6) : PdOK ss cn (at_ (ev0 w ss cn pk pr pn).2.2 0) := ⟨hp0.1, hp0.2.1, hp0.2.2.1, (ev_ok hw hf).2.1, hp0.2.2.2.2⟩
theorem fa_bd {k r n : Int} (ss : List Int) (cn : Int) : ∀ (f : Nat) (pl k r n : Int), 0 ≤ pl → (at_ (faA ss cn f pl k r n) 0 = -6 ∨ 0 ≤ at_ (faA ss cn f pl k r n) 0) ∧ at_ (faA ss cn f pl k r n) 0 ≤ pl + 3 * f
  | 0, pl, k, r, n, h => ⟨Or.inl rfl, by show (-6 : Int) ≤ _; omega⟩
  | f + 1, pl, k, r, n, h => by
    have q := rdq_pl ss cn pl k
    unfold faA
    split
    · exact ⟨Or.inl rfl, by show (-6 : Int) ≤ _; omega⟩
    · split
      · refine ⟨Or.inr ?_, ?_⟩
        · show 0 ≤ at_ (rdq ss cn pl k) 1
          omega
        · show at_ (rdq ss cn pl k) 1 ≤ _
          omega
      · have ih := fa_bd (k := k) (r := r) (n := n) ss cn f (at_ (rdq ss cn pl k) 1) (at_ (rdq ss cn pl k) 2) (at_ (rdq ss cn pl k) 3) (at_ (rdq ss cn pl k) 4) (by omega)
        exact ⟨ih.1, by have := ih.2; omega⟩
theorem fa0_bd {k r n : Int} : (at_ (fa0 ss cn k r n) 0 = -6 ∨ 0 ≤ at_ (fa0 ss cn k r n) 0) ∧ at_ (fa0 ss cn k r n) 0 ≤ 1000 := by
  have := fa_bd (k := k) (r := r) (n := n) ss cn 60 0 k r n (by omega)
  unfold fa0
  omega
def okE (w ss : List Int) (cn k r n : Int) : Prop := at_ (fa0 ss cn k r n) 0 = -6 ∧ at_ (ev0 w ss cn k r n).2.1 1 = -6
def okB (w ss : List Int) (cn k r n : Int) : Bool := decide (at_ (fa0 ss cn k r n) 0 = -6) && decide (at_ (ev0 w ss cn k r n).2.1 1 = -6)
theorem okB_iff {k r n : Int} : okB w ss cn k r n = true ↔ okE w ss cn k r n := by unfold okB okE; simp
def jdA (w ss : List Int) (cn k r n what : Int) : Int := if what = 0 ∨ what = 1 then (if at_ (fa0 ss cn k r n) 0 = -6 then (if what = 0 then at_ (ev0 w ss cn k r n).2.1 1 else at_ (ev0 w ss cn k r n).2.1 2) else -5) else -2
theorem sp_stoppedAt {h : MH} (hE : h[6]? = some (eobj ac st re fg)) : Sp xs m_Evening_stoppedAt [vR 6] h (some (vI st)) h := by
  refine en_Evening_stoppedAt ?_
  refine r_aload_n cd_Evening_stoppedAt_0 rfl ?_
  refine r_getfield cd_Evening_stoppedAt_1 hE rfl ?_
  exact r_iret cd_Evening_stoppedAt_4 rt_Evening_stoppedAt (by first | rfl | omega | (split <;> first | rfl | omega)) (by rfl)
theorem sp_reason {h : MH} (hE : h[6]? = some (eobj ac st re fg)) : Sp xs m_Evening_reason [vR 6] h (some (vI re)) h := by
  refine en_Evening_reason ?_
  refine r_aload_n cd_Evening_reason_0 rfl ?_
  refine r_getfield cd_Evening_reason_1 hE rfl ?_
  exact r_iret cd_Evening_reason_4 rt_Evening_reason (by first | rfl | omega | (split <;> first | rfl | omega)) (by rfl)
theorem sp_acts {h : MH} (hE : h[6]? = some (eobj ac st re fg)) : Sp xs m_Evening_acts [vR 6] h (some (vI ac)) h := by
  refine en_Evening_acts ?_
  refine r_aload_n cd_Evening_acts_0 rfl ?_
  refine r_getfield cd_Evening_acts_1 hE rfl ?_
  exact r_iret cd_Evening_acts_4 rt_Evening_acts (by first | rfl | omega | (split <;> first | rfl | omega)) (by rfl)
theorem sp_firstGoal {h : MH} (hE : h[6]? = some (eobj ac st re fg)) : Sp xs m_Evening_firstGoal [vR 6] h (some (vI fg)) h := by
  refine en_Evening_firstGoal ?_
  refine r_aload_n cd_Evening_firstGoal_0 rfl ?_
  refine r_getfield cd_Evening_firstGoal_1 hE rfl ?_
  exact r_iret cd_Evening_firstGoal_4 rt_Evening_firstGoal (by first | rfl | omega | (split <;> first | rfl | omega)) (by rfl)
theorem sp_table {h : MH} (hE : h[6]? = some (eobj ac st re fg)) : Sp xs m_Evening_table [vR 6] h (some (vR 7)) h := by
  refine en_Evening_table ?_
  refine r_aload_n cd_Evening_table_0 rfl ?_
  refine r_getfield cd_Evening_table_1 hE rfl ?_
  exact r_aret cd_Evening_table_4 rt_Evening_table (by rfl)
theorem sp_F_judge {what : Int} (hp0 : PdOK ss cn pl) (hw : WF w) (he : we.length = 21) (hx : inR what) : ∃ a b c d e f g i wE, (0 ≤ a ∧ wE.length = 21) ∧ Sp xs m_F_judge [vR 0, vI what] (hp w ss cn pl pk pr pn ac st re fg we pc li sl wt pb sh sd rw sn fd i1 w1 sh1 sd1 rw1 sn1 fd1 i2 w2 sh2 sd2 rw2 sn2 fd2 wd R) (some (vI (jdA w ss cn pk pr pn what))) (hp w ss cn a b c d e f g i wE pc li sl wt pb sh sd rw sn fd i1 w1 sh1 sd1 rw1 sn1 fd1 i2 w2 sh2 sd2 rw2 sn2 fd2 wd R) := by
  have hfb := fa0_bd (ss := ss) (cn := cn) (k := pk) (r := pr) (n := pn)
  have hx2 := hx
  obtain ⟨x1, x2⟩ := hx2
  by_cases z0 : what = 0 ∨ what = 1
  · skip
    by_cases z1 : at_ (fa0 ss cn pk pr pn) 0 = -6
    · refine ⟨at_ (ev0 w ss cn pk pr pn).2.2 0, at_ (ev0 w ss cn pk pr pn).2.2 1, at_ (ev0 w ss cn pk pr pn).2.2 2, at_ (ev0 w ss cn pk pr pn).2.2 3, at_ (ev0 w ss cn pk pr pn).2.1 0, at_ (ev0 w ss cn pk pr pn).2.1 1, at_ (ev0 w ss cn pk pr pn).2.1 2, at_ (ev0 w ss cn pk pr pn).2.1 3, (ev0 w ss cn pk pr pn).1, ⟨(pd_ev hp0 hw z1).2.2.2.1, (ev_ok hw z1).1.1⟩, ?_⟩
      unfold jdA
      rw [if_pos z0, if_pos z1]
      have hE : (hp w ss cn (at_ (ev0 w ss cn pk pr pn).2.2 0) (at_ (ev0 w ss cn pk pr pn).2.2 1) (at_ (ev0 w ss cn pk pr pn).2.2 2) (at_ (ev0 w ss cn pk pr pn).2.2 3) (at_ (ev0 w ss cn pk pr pn).2.1 0) (at_ (ev0 w ss cn pk pr pn).2.1 1) (at_ (ev0 w ss cn pk pr pn).2.1 2) (at_ (ev0 w ss cn pk pr pn).2.1 3) ((ev0 w ss cn pk pr pn).1) pc li sl wt pb sh sd rw sn fd i1 w1 sh1 sd1 rw1 sn1 fd1 i2 w2 sh2 sd2 rw2 sn2 fd2 wd R)[6]? = some (eobj (at_ (ev0 w ss cn pk pr pn).2.1 0) (at_ (ev0 w ss cn pk pr pn).2.1 1) (at_ (ev0 w ss cn pk pr pn).2.1 2) (at_ (ev0 w ss cn pk pr pn).2.1 3)) := rfl
      refine en_F_judge ?_
      refine r_iload_n cd_F_judge_0 rfl ?_
      refine r_cv1 cd_F_judge_1 rfl ck_F_judge_F_isBit rfl (Nat.le_of_ble_eq_true rfl) (sp_isBit hx) ?_
      refine r_ifne_p cd_F_judge_4 (fun c_4 => ?_) (fun c_4 => ?_)
      · skip
        refine r_aload_n cd_F_judge_10 rfl ?_
        refine r_getfield cd_F_judge_11 hp_0 rfl ?_
        refine r_vv0 cd_F_judge_14 rfl ck_F_judge_Pad_faultPlace (Nat.le_of_ble_eq_true rfl) (hp_P hp0).1 rfl (sp_fp hp0) ?_
        refine r_bipush cd_F_judge_17 ?_
        refine r_icmp_eq cd_F_judge_19 ⟨by omega, by omega⟩ ⟨by decide, by decide⟩ (fun c_19 => ?_) (fun c_19 => ?_)
        · skip
          refine r_aload_n cd_F_judge_25 rfl ?_
          refine r_getfield cd_F_judge_26 hp_0 rfl ?_
          refine r_aload_n cd_F_judge_29 rfl ?_
          refine r_getfield cd_F_judge_30 hp_0 rfl ?_
          refine r_aload_n cd_F_judge_33 rfl ?_
          refine r_getfield cd_F_judge_34 hp_0 rfl ?_
          refine r_vz2 cd_F_judge_37 rfl ck_F_judge_Evening_play (Nat.le_of_ble_eq_true rfl) hp_E rfl (sp_pl hp0 hw he z1) ?_
          refine r_iload_n cd_F_judge_40 rfl ?_
          refine r_if_ne cd_F_judge_41 ⟨by omega, by omega⟩ (fun c_41 => ?_) (fun c_41 => ?_)
          · skip
            refine r_aload_n cd_F_judge_54 rfl ?_
            refine r_getfield cd_F_judge_55 hp_0 rfl ?_
            refine r_vv0 cd_F_judge_58 rfl ck_F_judge_Evening_reason (Nat.le_of_ble_eq_true rfl) hp_E rfl (sp_reason hE) ?_
            exact r_iret cd_F_judge_61 rt_F_judge (by first | (rw [if_pos c_41]; done) | (rw [if_neg c_41]; done)) (by rfl)
          · skip
            refine r_aload_n cd_F_judge_44 rfl ?_
            refine r_getfield cd_F_judge_45 hp_0 rfl ?_
            refine r_vv0 cd_F_judge_48 rfl ck_F_judge_Evening_stoppedAt (Nat.le_of_ble_eq_true rfl) hp_E rfl (sp_stoppedAt hE) ?_
            refine r_goto cd_F_judge_51 ?_
            exact r_iret cd_F_judge_61 rt_F_judge (by first | (rw [if_pos c_41]; done) | (rw [if_neg c_41]; done)) (by rfl)
        · skip
          exact absurd z1 c_19
      · skip
        refine r_bipush cd_F_judge_7 ?_
        exact absurd z0 c_4
    · refine ⟨at_ (fa0 ss cn pk pr pn) 1, at_ (fa0 ss cn pk pr pn) 2, at_ (fa0 ss cn pk pr pn) 3, at_ (fa0 ss cn pk pr pn) 4, ac, st, re, fg, we, ⟨(pd_fa hp0).2.2.2.1, he⟩, ?_⟩
      unfold jdA
      rw [if_pos z0, if_neg z1]
      refine en_F_judge ?_
      refine r_iload_n cd_F_judge_0 rfl ?_
      refine r_cv1 cd_F_judge_1 rfl ck_F_judge_F_isBit rfl (Nat.le_of_ble_eq_true rfl) (sp_isBit hx) ?_
      refine r_ifne_p cd_F_judge_4 (fun c_4 => ?_) (fun c_4 => ?_)
      · skip
        refine r_aload_n cd_F_judge_10 rfl ?_
        refine r_getfield cd_F_judge_11 hp_0 rfl ?_
        refine r_vv0 cd_F_judge_14 rfl ck_F_judge_Pad_faultPlace (Nat.le_of_ble_eq_true rfl) (hp_P hp0).1 rfl (sp_fp hp0) ?_
        refine r_bipush cd_F_judge_17 ?_
        refine r_icmp_eq cd_F_judge_19 ⟨by omega, by omega⟩ ⟨by decide, by decide⟩ (fun c_19 => ?_) (fun c_19 => ?_)
        · skip
          exact absurd c_19 z1
        · skip
          refine r_bipush cd_F_judge_22 ?_
          exact r_iret cd_F_judge_24 rt_F_judge (by rfl) (by rfl)
      · skip
        refine r_bipush cd_F_judge_7 ?_
        exact absurd z0 c_4
  · refine ⟨pl, pk, pr, pn, ac, st, re, fg, we, ⟨hp0.2.2.2.1, he⟩, ?_⟩
    unfold jdA
    rw [if_neg z0]
    refine en_F_judge ?_
    refine r_iload_n cd_F_judge_0 rfl ?_
    refine r_cv1 cd_F_judge_1 rfl ck_F_judge_F_isBit rfl (Nat.le_of_ble_eq_true rfl) (sp_isBit hx) ?_
    refine r_ifne_p cd_F_judge_4 (fun c_4 => ?_) (fun c_4 => ?_)
    · skip
      exact absurd c_4 z0
    · skip
      refine r_bipush cd_F_judge_7 ?_
      exact r_iret cd_F_judge_9 rt_F_judge (by rfl) (by rfl)

theorem evA_st : ∀ (f : Nat) (pl k r n : Int) (w : List Int) (ac fg : Int), 0 ≤ ac → at_ (evA ss cn f pl k r n w ac fg).2.1 1 = -6 ∨ (0 ≤ at_ (evA ss cn f pl k r n w ac fg).2.1 1 ∧ at_ (evA ss cn f pl k r n w ac fg).2.1 1 ≤ ac + f)
  | 0, pl, k, r, n, w, ac, fg, h => Or.inl rfl
  | f + 1, pl, k, r, n, w, ac, fg, h => by
    unfold evA
    split
    · exact Or.inl rfl
    · split
      · exact Or.inr ⟨h, by show ac ≤ _; omega⟩
      · rcases evA_st f (at_ (rdq ss cn pl k) 1) (at_ (rdq ss cn pl k) 2) (at_ (rdq ss cn pl k) 3) (at_ (rdq ss cn pl k) 4) (prf w (at_ (rdq ss cn pl k) 2) (at_ (rdq ss cn pl k) 3) (at_ (rdq ss cn pl k) 4)) (ac + 1) (if fg = -6 ∧ at_ w 18 + at_ w 19 < at_ (prf w (at_ (rdq ss cn pl k) 2) (at_ (rdq ss cn pl k) 3) (at_ (rdq ss cn pl k) 4)) 18 + at_ (prf w (at_ (rdq ss cn pl k) 2) (at_ (rdq ss cn pl k) 3) (at_ (rdq ss cn pl k) 4)) 19 then ac else fg) (by omega) with z | z
        · exact Or.inl z
        · exact Or.inr ⟨z.1, by have := z.2; omega⟩
theorem ev_st (hw : WF w) (hf : at_ (fa0 ss cn pk pr pn) 0 = -6) : at_ (ev0 w ss cn pk pr pn).2.1 1 = -6 ∨ (0 ≤ at_ (ev0 w ss cn pk pr pn).2.1 1 ∧ at_ (ev0 w ss cn pk pr pn).2.1 1 ≤ 0 + (60 : Nat)) := evA_st 60 0 _ _ _ w 0 (-6) (by omega)
theorem sp_pt_y (hp0 : PdOK ss cn pl) (hw : WF w) (he : we.length = 21) (h0 : okE w ss cn pk pr pn) : Sp xs m_F_playsThrough [vR 0] (hp w ss cn pl pk pr pn ac st re fg we pc li sl wt pb sh sd rw sn fd i1 w1 sh1 sd1 rw1 sn1 fd1 i2 w2 sh2 sd2 rw2 sn2 fd2 wd R) (some (vI 1)) (hp w ss cn (at_ (ev0 w ss cn pk pr pn).2.2 0) (at_ (ev0 w ss cn pk pr pn).2.2 1) (at_ (ev0 w ss cn pk pr pn).2.2 2) (at_ (ev0 w ss cn pk pr pn).2.2 3) (at_ (ev0 w ss cn pk pr pn).2.1 0) (at_ (ev0 w ss cn pk pr pn).2.1 1) (at_ (ev0 w ss cn pk pr pn).2.1 2) (at_ (ev0 w ss cn pk pr pn).2.1 3) ((ev0 w ss cn pk pr pn).1) pc li sl wt pb sh sd rw sn fd i1 w1 sh1 sd1 rw1 sn1 fd1 i2 w2 sh2 sd2 rw2 sn2 fd2 wd R) := by
  obtain ⟨z1, z2⟩ := h0
  have hE : (hp w ss cn (at_ (ev0 w ss cn pk pr pn).2.2 0) (at_ (ev0 w ss cn pk pr pn).2.2 1) (at_ (ev0 w ss cn pk pr pn).2.2 2) (at_ (ev0 w ss cn pk pr pn).2.2 3) (at_ (ev0 w ss cn pk pr pn).2.1 0) (at_ (ev0 w ss cn pk pr pn).2.1 1) (at_ (ev0 w ss cn pk pr pn).2.1 2) (at_ (ev0 w ss cn pk pr pn).2.1 3) ((ev0 w ss cn pk pr pn).1) pc li sl wt pb sh sd rw sn fd i1 w1 sh1 sd1 rw1 sn1 fd1 i2 w2 sh2 sd2 rw2 sn2 fd2 wd R)[6]? = some (eobj (at_ (ev0 w ss cn pk pr pn).2.1 0) (at_ (ev0 w ss cn pk pr pn).2.1 1) (at_ (ev0 w ss cn pk pr pn).2.1 2) (at_ (ev0 w ss cn pk pr pn).2.1 3)) := rfl
  have hev := ev_ok (pk := pk) (pr := pr) (pn := pn) hw z1
  have hfb := fa0_bd (ss := ss) (cn := cn) (k := pk) (r := pr) (n := pn)
  refine en_F_playsThrough ?_
  refine r_aload_n cd_F_playsThrough_0 rfl ?_
  refine r_getfield cd_F_playsThrough_1 hp_0 rfl ?_
  refine r_vv0 cd_F_playsThrough_4 rfl ck_F_playsThrough_Pad_faultPlace (Nat.le_of_ble_eq_true rfl) (hp_P hp0).1 rfl (sp_fp hp0) ?_
  refine r_bipush cd_F_playsThrough_7 ?_
  refine r_icmp_eq cd_F_playsThrough_9 ⟨by omega, by omega⟩ ⟨by decide, by decide⟩ (fun c_9 => ?_) (fun c_9 => ?_)
  · skip
    refine r_aload_n cd_F_playsThrough_14 rfl ?_
    refine r_getfield cd_F_playsThrough_15 hp_0 rfl ?_
    refine r_aload_n cd_F_playsThrough_18 rfl ?_
    refine r_getfield cd_F_playsThrough_19 hp_0 rfl ?_
    refine r_aload_n cd_F_playsThrough_22 rfl ?_
    refine r_getfield cd_F_playsThrough_23 hp_0 rfl ?_
    refine r_vz2 cd_F_playsThrough_26 rfl ck_F_playsThrough_Evening_play (Nat.le_of_ble_eq_true rfl) hp_E rfl (sp_pl hp0 hw he z1) ?_
    refine r_aload_n cd_F_playsThrough_29 rfl ?_
    refine r_getfield cd_F_playsThrough_30 hp_0 rfl ?_
    refine r_vv0 cd_F_playsThrough_33 rfl ck_F_playsThrough_Evening_stoppedAt (Nat.le_of_ble_eq_true rfl) hp_E rfl (sp_stoppedAt hE) ?_
    refine r_bipush cd_F_playsThrough_36 ?_
    refine r_icmp_ne cd_F_playsThrough_38 ⟨by omega, by omega⟩ ⟨by decide, by decide⟩ (fun c_38 => ?_) (fun c_38 => ?_)
    · skip
      exact absurd z2 c_38
    · skip
      refine r_iconst cd_F_playsThrough_41 ?_
      refine r_goto cd_F_playsThrough_42 ?_
      exact r_zretc cd_F_playsThrough_46 rt_F_playsThrough (by decide) (by first | rfl | omega | (split <;> first | rfl | omega)) (by rfl)
  · skip
    exact absurd z1 c_9
theorem sp_pt_n (hp0 : PdOK ss cn pl) (hw : WF w) (he : we.length = 21) (h0 : ¬ okE w ss cn pk pr pn) : ∃ a b c d e f g i wE, (0 ≤ a ∧ wE.length = 21) ∧ Sp xs m_F_playsThrough [vR 0] (hp w ss cn pl pk pr pn ac st re fg we pc li sl wt pb sh sd rw sn fd i1 w1 sh1 sd1 rw1 sn1 fd1 i2 w2 sh2 sd2 rw2 sn2 fd2 wd R) (some (vI 0)) (hp w ss cn a b c d e f g i wE pc li sl wt pb sh sd rw sn fd i1 w1 sh1 sd1 rw1 sn1 fd1 i2 w2 sh2 sd2 rw2 sn2 fd2 wd R) := by
  have hfb := fa0_bd (ss := ss) (cn := cn) (k := pk) (r := pr) (n := pn)
  by_cases z1 : at_ (fa0 ss cn pk pr pn) 0 = -6
  · refine ⟨at_ (ev0 w ss cn pk pr pn).2.2 0, at_ (ev0 w ss cn pk pr pn).2.2 1, at_ (ev0 w ss cn pk pr pn).2.2 2, at_ (ev0 w ss cn pk pr pn).2.2 3, at_ (ev0 w ss cn pk pr pn).2.1 0, at_ (ev0 w ss cn pk pr pn).2.1 1, at_ (ev0 w ss cn pk pr pn).2.1 2, at_ (ev0 w ss cn pk pr pn).2.1 3, (ev0 w ss cn pk pr pn).1, ⟨(pd_ev hp0 hw z1).2.2.2.1, (ev_ok hw z1).1.1⟩, ?_⟩
    have z2 : at_ (ev0 w ss cn pk pr pn).2.1 1 ≠ -6 := fun q => h0 ⟨z1, q⟩
    have hE : (hp w ss cn (at_ (ev0 w ss cn pk pr pn).2.2 0) (at_ (ev0 w ss cn pk pr pn).2.2 1) (at_ (ev0 w ss cn pk pr pn).2.2 2) (at_ (ev0 w ss cn pk pr pn).2.2 3) (at_ (ev0 w ss cn pk pr pn).2.1 0) (at_ (ev0 w ss cn pk pr pn).2.1 1) (at_ (ev0 w ss cn pk pr pn).2.1 2) (at_ (ev0 w ss cn pk pr pn).2.1 3) ((ev0 w ss cn pk pr pn).1) pc li sl wt pb sh sd rw sn fd i1 w1 sh1 sd1 rw1 sn1 fd1 i2 w2 sh2 sd2 rw2 sn2 fd2 wd R)[6]? = some (eobj (at_ (ev0 w ss cn pk pr pn).2.1 0) (at_ (ev0 w ss cn pk pr pn).2.1 1) (at_ (ev0 w ss cn pk pr pn).2.1 2) (at_ (ev0 w ss cn pk pr pn).2.1 3)) := rfl
    have hev := ev_ok (pk := pk) (pr := pr) (pn := pn) hw z1
    have hst := ev_st (pk := pk) (pr := pr) (pn := pn) hw z1
    refine en_F_playsThrough ?_
    refine r_aload_n cd_F_playsThrough_0 rfl ?_
    refine r_getfield cd_F_playsThrough_1 hp_0 rfl ?_
    refine r_vv0 cd_F_playsThrough_4 rfl ck_F_playsThrough_Pad_faultPlace (Nat.le_of_ble_eq_true rfl) (hp_P hp0).1 rfl (sp_fp hp0) ?_
    refine r_bipush cd_F_playsThrough_7 ?_
    refine r_icmp_eq cd_F_playsThrough_9 ⟨by omega, by omega⟩ ⟨by decide, by decide⟩ (fun c_9 => ?_) (fun c_9 => ?_)
    · skip
      refine r_aload_n cd_F_playsThrough_14 rfl ?_
      refine r_getfield cd_F_playsThrough_15 hp_0 rfl ?_
      refine r_aload_n cd_F_playsThrough_18 rfl ?_
      refine r_getfield cd_F_playsThrough_19 hp_0 rfl ?_
      refine r_aload_n cd_F_playsThrough_22 rfl ?_
      refine r_getfield cd_F_playsThrough_23 hp_0 rfl ?_
      refine r_vz2 cd_F_playsThrough_26 rfl ck_F_playsThrough_Evening_play (Nat.le_of_ble_eq_true rfl) hp_E rfl (sp_pl hp0 hw he z1) ?_
      refine r_aload_n cd_F_playsThrough_29 rfl ?_
      refine r_getfield cd_F_playsThrough_30 hp_0 rfl ?_
      refine r_vv0 cd_F_playsThrough_33 rfl ck_F_playsThrough_Evening_stoppedAt (Nat.le_of_ble_eq_true rfl) hp_E rfl (sp_stoppedAt hE) ?_
      refine r_bipush cd_F_playsThrough_36 ?_
      refine r_icmp_ne cd_F_playsThrough_38 ⟨by omega, by omega⟩ ⟨by decide, by decide⟩ (fun c_38 => ?_) (fun c_38 => ?_)
      · skip
        refine r_iconst cd_F_playsThrough_45 ?_
        exact r_zretc cd_F_playsThrough_46 rt_F_playsThrough (by decide) (by first | rfl | omega | (split <;> first | rfl | omega)) (by rfl)
      · skip
        exact absurd c_38 z2
    · skip
      exact absurd z1 c_9
  · refine ⟨at_ (fa0 ss cn pk pr pn) 1, at_ (fa0 ss cn pk pr pn) 2, at_ (fa0 ss cn pk pr pn) 3, at_ (fa0 ss cn pk pr pn) 4, ac, st, re, fg, we, ⟨(pd_fa hp0).2.2.2.1, he⟩, ?_⟩
    refine en_F_playsThrough ?_
    refine r_aload_n cd_F_playsThrough_0 rfl ?_
    refine r_getfield cd_F_playsThrough_1 hp_0 rfl ?_
    refine r_vv0 cd_F_playsThrough_4 rfl ck_F_playsThrough_Pad_faultPlace (Nat.le_of_ble_eq_true rfl) (hp_P hp0).1 rfl (sp_fp hp0) ?_
    refine r_bipush cd_F_playsThrough_7 ?_
    refine r_icmp_eq cd_F_playsThrough_9 ⟨by omega, by omega⟩ ⟨by decide, by decide⟩ (fun c_9 => ?_) (fun c_9 => ?_)
    · skip
      exact absurd c_9 z1
    · skip
      refine r_iconst cd_F_playsThrough_12 ?_
      exact r_zretc cd_F_playsThrough_13 rt_F_playsThrough (by decide) (by first | rfl | omega | (split <;> first | rfl | omega)) (by rfl)
def dnA (w ss : List Int) (cn k r n : Int) : Int := if okB w ss cn k r n = true then at_ (ev0 w ss cn k r n).2.1 0 else -5
def dnW (w ss : List Int) (cn k r n : Int) : List Int := if okB w ss cn k r n = true then (ev0 w ss cn k r n).1 else w
def dnC (w ss : List Int) (cn k r n : Int) : Int := if okB w ss cn k r n = true then 0 else cn
theorem wf_dnW {k r n : Int} (hw : WF w) : WF (dnW w ss cn k r n) := by
  unfold dnW
  split
  · next z => exact (ev_ok hw (okB_iff.mp z).1).1
  · exact hw
theorem pd_0 {p : Int} (hp0 : PdOK ss cn pl) (h0 : 0 ≤ p) : PdOK ss 0 p := ⟨hp0.1, by omega, by omega, h0, fun j j0 j1 => by omega⟩
theorem sp_F_done (hp0 : PdOK ss cn pl) (hw : WF w) (he : we.length = 21) : ∃ a b c d e f g i wE, (0 ≤ a ∧ wE.length = 21) ∧ Sp xs m_F_done [vR 0] (hp w ss cn pl pk pr pn ac st re fg we pc li sl wt pb sh sd rw sn fd i1 w1 sh1 sd1 rw1 sn1 fd1 i2 w2 sh2 sd2 rw2 sn2 fd2 wd R) (some (vI (dnA w ss cn pk pr pn))) (hp (dnW w ss cn pk pr pn) ss (dnC w ss cn pk pr pn) a b c d e f g i wE pc li sl wt pb sh sd rw sn fd i1 w1 sh1 sd1 rw1 sn1 fd1 i2 w2 sh2 sd2 rw2 sn2 fd2 wd R) := by
  by_cases z : okB w ss cn pk pr pn = true
  · have zE := okB_iff.mp z
    have hev := ev_ok (pk := pk) (pr := pr) (pn := pn) hw zE.1
    refine ⟨at_ (ev0 w ss cn pk pr pn).2.2 0, at_ (ev0 w ss cn pk pr pn).2.2 1, at_ (ev0 w ss cn pk pr pn).2.2 2, at_ (ev0 w ss cn pk pr pn).2.2 3, at_ (ev0 w ss cn pk pr pn).2.1 0, at_ (ev0 w ss cn pk pr pn).2.1 1, at_ (ev0 w ss cn pk pr pn).2.1 2, at_ (ev0 w ss cn pk pr pn).2.1 3, (ev0 w ss cn pk pr pn).1, ⟨(pd_ev hp0 hw zE.1).2.2.2.1, hev.1.1⟩, ?_⟩
    unfold dnA dnW dnC
    rw [if_pos z, if_pos z, if_pos z]
    have hE : (hp w ss cn (at_ (ev0 w ss cn pk pr pn).2.2 0) (at_ (ev0 w ss cn pk pr pn).2.2 1) (at_ (ev0 w ss cn pk pr pn).2.2 2) (at_ (ev0 w ss cn pk pr pn).2.2 3) (at_ (ev0 w ss cn pk pr pn).2.1 0) (at_ (ev0 w ss cn pk pr pn).2.1 1) (at_ (ev0 w ss cn pk pr pn).2.1 2) (at_ (ev0 w ss cn pk pr pn).2.1 3) ((ev0 w ss cn pk pr pn).1) pc li sl wt pb sh sd rw sn fd i1 w1 sh1 sd1 rw1 sn1 fd1 i2 w2 sh2 sd2 rw2 sn2 fd2 wd R)[6]? = some (eobj (at_ (ev0 w ss cn pk pr pn).2.1 0) (at_ (ev0 w ss cn pk pr pn).2.1 1) (at_ (ev0 w ss cn pk pr pn).2.1 2) (at_ (ev0 w ss cn pk pr pn).2.1 3)) := rfl
    have hT1 : TabAt (hp w ss cn (at_ (ev0 w ss cn pk pr pn).2.2 0) (at_ (ev0 w ss cn pk pr pn).2.2 1) (at_ (ev0 w ss cn pk pr pn).2.2 2) (at_ (ev0 w ss cn pk pr pn).2.2 3) (at_ (ev0 w ss cn pk pr pn).2.1 0) (at_ (ev0 w ss cn pk pr pn).2.1 1) (at_ (ev0 w ss cn pk pr pn).2.1 2) (at_ (ev0 w ss cn pk pr pn).2.1 3) ((ev0 w ss cn pk pr pn).1) pc li sl wt pb sh sd rw sn fd i1 w1 sh1 sd1 rw1 sn1 fd1 i2 w2 sh2 sd2 rw2 sn2 fd2 wd R) 1 w := ⟨rfl, rfl, rfl⟩
    have hT7 : TabAt (hp w ss cn (at_ (ev0 w ss cn pk pr pn).2.2 0) (at_ (ev0 w ss cn pk pr pn).2.2 1) (at_ (ev0 w ss cn pk pr pn).2.2 2) (at_ (ev0 w ss cn pk pr pn).2.2 3) (at_ (ev0 w ss cn pk pr pn).2.1 0) (at_ (ev0 w ss cn pk pr pn).2.1 1) (at_ (ev0 w ss cn pk pr pn).2.1 2) (at_ (ev0 w ss cn pk pr pn).2.1 3) ((ev0 w ss cn pk pr pn).1) pc li sl wt pb sh sd rw sn fd i1 w1 sh1 sd1 rw1 sn1 fd1 i2 w2 sh2 sd2 rw2 sn2 fd2 wd R) 7 (ev0 w ss cn pk pr pn).1 := ⟨rfl, rfl, rfl⟩
    have hPX : PadAt (tset (hp w ss cn (at_ (ev0 w ss cn pk pr pn).2.2 0) (at_ (ev0 w ss cn pk pr pn).2.2 1) (at_ (ev0 w ss cn pk pr pn).2.2 2) (at_ (ev0 w ss cn pk pr pn).2.2 3) (at_ (ev0 w ss cn pk pr pn).2.1 0) (at_ (ev0 w ss cn pk pr pn).2.1 1) (at_ (ev0 w ss cn pk pr pn).2.1 2) (at_ (ev0 w ss cn pk pr pn).2.1 3) ((ev0 w ss cn pk pr pn).1) pc li sl wt pb sh sd rw sn fd i1 w1 sh1 sd1 rw1 sn1 fd1 i2 w2 sh2 sd2 rw2 sn2 fd2 wd R) 1 (ev0 w ss cn pk pr pn).1) 4 ss cn (at_ (ev0 w ss cn pk pr pn).2.2 0) (at_ (ev0 w ss cn pk pr pn).2.2 1) (at_ (ev0 w ss cn pk pr pn).2.2 2) (at_ (ev0 w ss cn pk pr pn).2.2 3) := ⟨rfl, rfl, pd_ev hp0 hw zE.1⟩
    have hEY : ((tset (hp w ss cn (at_ (ev0 w ss cn pk pr pn).2.2 0) (at_ (ev0 w ss cn pk pr pn).2.2 1) (at_ (ev0 w ss cn pk pr pn).2.2 2) (at_ (ev0 w ss cn pk pr pn).2.2 3) (at_ (ev0 w ss cn pk pr pn).2.1 0) (at_ (ev0 w ss cn pk pr pn).2.1 1) (at_ (ev0 w ss cn pk pr pn).2.1 2) (at_ (ev0 w ss cn pk pr pn).2.1 3) ((ev0 w ss cn pk pr pn).1) pc li sl wt pb sh sd rw sn fd i1 w1 sh1 sd1 rw1 sn1 fd1 i2 w2 sh2 sd2 rw2 sn2 fd2 wd R) 1 (ev0 w ss cn pk pr pn).1).set 4 (pobj 4 0 (at_ (ev0 w ss cn pk pr pn).2.2 0) (at_ (ev0 w ss cn pk pr pn).2.2 1) (at_ (ev0 w ss cn pk pr pn).2.2 2) (at_ (ev0 w ss cn pk pr pn).2.2 3)))[6]? = some (eobj (at_ (ev0 w ss cn pk pr pn).2.1 0) (at_ (ev0 w ss cn pk pr pn).2.1 1) (at_ (ev0 w ss cn pk pr pn).2.1 2) (at_ (ev0 w ss cn pk pr pn).2.1 3)) := rfl
    refine en_F_done ?_
    refine r_aload_n cd_F_done_0 rfl ?_
    refine r_vv0 cd_F_done_1 rfl ck_F_done_F_playsThrough (Nat.le_of_ble_eq_true rfl) (by first | exact hp_0 | rfl) rfl (sp_pt_y hp0 hw he zE) ?_
    refine r_if_ne cd_F_done_4 ⟨by decide, by decide⟩ (fun _ => ?_) (fun c_4 => absurd c_4 (by decide))
    refine r_aload_n cd_F_done_10 rfl ?_
    refine r_getfield cd_F_done_11 (by first | exact hp_0 | rfl) rfl ?_
    refine r_aload_n cd_F_done_14 rfl ?_
    refine r_getfield cd_F_done_15 (by first | exact hp_0 | rfl) rfl ?_
    refine r_vv0 cd_F_done_18 rfl ck_F_done_Evening_table (Nat.le_of_ble_eq_true rfl) hp_E rfl (sp_table hE) ?_
    refine r_vz1 cd_F_done_21 rfl ck_F_done_Table_copyFrom (Nat.le_of_ble_eq_true rfl) hT1.1 rfl (sp_copyFrom (by omega) hT1 hT7 hw.1 hev.1.1) ?_
    skip
    refine r_aload_n cd_F_done_24 rfl ?_
    refine r_getfield cd_F_done_25 (by first | exact hp_0 | rfl) rfl ?_
    refine r_vz0 cd_F_done_28 rfl ck_F_done_Pad_clear (Nat.le_of_ble_eq_true rfl) hPX.1 rfl (sp_Pad_clear hPX) ?_
    skip
    refine r_aload_n cd_F_done_31 rfl ?_
    refine r_getfield cd_F_done_32 (by first | exact hp_0 | rfl) rfl ?_
    refine r_vv0 cd_F_done_35 rfl ck_F_done_Evening_acts (Nat.le_of_ble_eq_true rfl) hEY rfl (sp_acts hEY) ?_
    exact r_iret cd_F_done_38 rt_F_done (by rfl) (by rfl)
  · have zE : ¬ okE w ss cn pk pr pn := fun q => z (okB_iff.mpr q)
    obtain ⟨a, b, c, d, e, f, g, i, wE, q, hS⟩ := sp_pt_n (xs := xs) (ac := ac) (st := st) (re := re) (fg := fg) (pc := pc) (li := li) (sl := sl) (wt := wt) (pb := pb) (sh := sh) (sd := sd) (rw := rw) (sn := sn) (fd := fd) (i1 := i1) (w1 := w1) (sh1 := sh1) (sd1 := sd1) (rw1 := rw1) (sn1 := sn1) (fd1 := fd1) (i2 := i2) (w2 := w2) (sh2 := sh2) (sd2 := sd2) (rw2 := rw2) (sn2 := sn2) (fd2 := fd2) (wd := wd) (R := R) hp0 hw he zE
    refine ⟨a, b, c, d, e, f, g, i, wE, q, ?_⟩
    unfold dnA dnW dnC
    rw [if_neg z, if_neg z, if_neg z]
    refine en_F_done ?_
    refine r_aload_n cd_F_done_0 rfl ?_
    refine r_vv0 cd_F_done_1 rfl ck_F_done_F_playsThrough (Nat.le_of_ble_eq_true rfl) hp_0 rfl hS ?_
    refine r_if_ne cd_F_done_4 ⟨by decide, by decide⟩ (fun c_4 => absurd c_4 (by decide)) (fun _ => ?_)
    refine r_bipush cd_F_done_7 ?_
    exact r_iret cd_F_done_9 rt_F_done (by rfl) (by rfl)
end C61
