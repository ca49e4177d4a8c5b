-- what an act does; the table stays a table
section C35
variable {xs : List Int} {h : MH} {t : Nat} {w : List Int}
theorem sp_giveE {e : Int} (hT : TabAt h t w) (hl : w.length = 21) (h0 : 0 ≤ e) (h1 : e < 80) : Sp xs m_Table_giveBall [vR t, vI e] h none (tset h t (ballE w e)) := by
  have e9 := sp_giveBall (xs := xs) (r := e / 10) (m := e % 10) hT hl (by omega) (by omega) (by omega) (by omega)
  rw [show 10 * (e / 10) + e % 10 = e by omega] at e9
  exact e9
theorem sp_endShot {e : Int} (hT : TabAt h t w) (hw : WF w) (ha : at_ w 16 ≠ -6) (h0 : 0 ≤ e) (h1 : e ≤ 80) : Sp xs m_Table_endShot [vR t, vI e] h none (tset h t (shoE w e)) := by
  obtain ⟨a1, a2, a3, a4⟩ := alive_bd hw ha
  have hs := sid_bd a1 a2
  refine en_Table_endShot ?_
  refine r_iload_n cd_Table_endShot_0 rfl ?_
  refine r_bipush cd_Table_endShot_1 ?_
  refine r_icmp_ne cd_Table_endShot_3 ⟨by omega, by omega⟩ ⟨by decide, by decide⟩ (fun c_3 => ?_) (fun c_3 => ?_)
  · skip
    refine r_aload_n cd_Table_endShot_33 rfl ?_
    refine r_iload_n cd_Table_endShot_34 rfl ?_
    refine r_vz1 cd_Table_endShot_35 rfl ck_Table_endShot_Table_giveBall (Nat.le_of_ble_eq_true rfl) hT.1 rfl (sp_giveE hT hw.1 h0 (by omega)) ?_
    exact r_vret cd_Table_endShot_38 rt_Table_endShot (by unfold shoE; first | (rw [if_pos c_3, tset_tset]; done) | (rw [if_neg c_3]; done))
  · skip
    refine r_aload_n cd_Table_endShot_6 rfl ?_
    refine r_getfield cd_Table_endShot_7 hT.1 rfl ?_
    refine r_cv1 cd_Table_endShot_10 rfl ck_Table_endShot_Rods_sideOf rfl (Nat.le_of_ble_eq_true rfl) (sp_sid a1 a2) ?_
    refine r_istoren3_2 cd_Table_endShot_13 rfl ?_
    refine r_aload_n cd_Table_endShot_14 rfl ?_
    refine r_iload_n cd_Table_endShot_15 rfl ?_
    refine r_aload_n cd_Table_endShot_16 rfl ?_
    refine r_iload_n cd_Table_endShot_17 rfl ?_
    refine r_vv1 cd_Table_endShot_18 rfl ck_Table_endShot_Table_scoredBy (Nat.le_of_ble_eq_true rfl) hT.1 rfl (sp_scoredBy hT hs) ?_
    refine r_iconst cd_Table_endShot_21 ?_
    refine r_iadd cd_Table_endShot_22 ?_
    refine r_vz2 cd_Table_endShot_23 rfl ck_Table_endShot_Table_setScored (Nat.le_of_ble_eq_true rfl) hT.1 rfl (sp_setScored hT hw.1 hs) ?_
    refine r_aload_n cd_Table_endShot_26 rfl ?_
    refine r_vz0 cd_Table_endShot_27 rfl ck_Table_endShot_Table_loseBall (Nat.le_of_ble_eq_true rfl) (tab_tset hT).1 rfl (sp_loseBall (tab_tset hT) (by rw [sw_len]; exact hw.1)) ?_
    refine r_goto cd_Table_endShot_30 ?_
    exact r_vret cd_Table_endShot_38 rt_Table_endShot (by unfold shoE; first | (rw [if_pos c_3, tset_tset]; done) | (rw [if_neg c_3]; done))
theorem shA_bd {w : List Int} {p d s br : Int} (hs : s = 0 ∨ s = 1) : ∀ (k : Nat) (i : Int), shA w p d s br k i = 80 ∨ manE (shA w p d s br k i)
  | 0, i => by
    unfold shA
    split
    · exact Or.inl rfl
    · right; rcases hs with rfl | rfl <;> (unfold manE; decide)
  | k + 1, i => by
    have ih : shA w p d s br k (i + 1) = 80 ∨ manE (shA w p d s br k (i + 1)) := shA_bd hs k (i + 1)
    unfold shA
    split
    · next hq =>
      have := cov_bd w (p := bnc (p + i * d)) hq.1.1 hq.1.2.1
      exact Or.inr (manE_of hq.1.1 hq.1.2.1 (by omega) (by omega))
    · exact ih
theorem shot_bd {d : Int} (hw : WF w) (ha : at_ w 16 ≠ -6) : shot w d = 80 ∨ manE (shot w d) := by
  obtain ⟨a1, a2, a3, a4⟩ := alive_bd hw ha
  exact shA_bd (sid_bd a1 a2) 7 1
theorem hcn_0 : hcn w 0 (-1) = at_ w 8 + at_ w 9 + at_ w 11 + at_ w 13 := by
  simp [hcn, hcA, sid]
  omega
theorem hcn_1 : hcn w 1 (-1) = at_ w 10 + at_ w 12 + at_ w 14 + at_ w 15 := by
  simp [hcn, hcA, sid]
  omega
theorem wf_slide {r v : Int} (hw : WF w) (h0 : 0 ≤ r) (h1 : r < 8) (v0 : 0 ≤ v) (v1 : v ≤ wid r) : WF (setw w r v) := by
  have key : ∀ j : Int, 0 ≤ j → at_ (setw w r v) j = if r = j then v else at_ w j := fun j hj => sw_at hw.1 h0 (by omega) hj
  have k2 : ∀ j : Int, 8 ≤ j → at_ (setw w r v) j = at_ w j := fun j hj => by rw [key j (by omega), if_neg (by omega)]
  obtain ⟨g1, g2, g3, g4, g5, g6, g7, g8, g9⟩ := hw
  refine ⟨by rw [sw_len]; exact g1, fun q q0 q1 => ?_, fun q q0 q1 => ?_, ?_, ?_, ?_, ?_, ?_, ?_⟩
  · rw [key q q0]
    split
    · next e => rw [← e]; omega
    · exact g2 q q0 q1
  · rw [k2 _ (by omega)]; exact g3 q q0 q1
  · rw [k2 16 (by omega), k2 17 (by omega)]; exact g4
  · rw [k2 18 (by omega)]; exact g5
  · rw [k2 19 (by omega)]; exact g6
  · rw [k2 20 (by omega)]; exact g7
  · rw [k2 8 (by omega), k2 9 (by omega), k2 11 (by omega), k2 13 (by omega)]; exact g8
  · rw [k2 10 (by omega), k2 12 (by omega), k2 14 (by omega), k2 15 (by omega)]; exact g9
theorem wf_hold {r v : Int} (hw : WF w) (h0 : 0 ≤ r) (h1 : r < 8) (hv : v = 0 ∨ v = 1) (hc : v = 1 → at_ w (8 + r) = 1 ∨ hcn w (sid r) (-1) < 2) : WF (setw w (8 + r) v) := by
  have key : ∀ j : Int, 0 ≤ j → at_ (setw w (8 + r) v) j = if 8 + r = j then v else at_ w j := fun j hj => sw_at hw.1 (by omega) (by omega) hj
  have k1 : ∀ j : Int, 0 ≤ j → j < 8 → at_ (setw w (8 + r) v) j = at_ w j := fun j hj hk => by rw [key j hj, if_neg (by omega)]
  have k2 : ∀ j : Int, 16 ≤ j → at_ (setw w (8 + r) v) j = at_ w j := fun j hj => by rw [key j (by omega), if_neg (by omega)]
  have c0 := hcn_0 (w := w)
  have c1 := hcn_1 (w := w)
  obtain ⟨g1, g2, g3, g4, g5, g6, g7, g8, g9⟩ := hw
  have b := g3 r h0 h1
  refine ⟨by rw [sw_len]; exact g1, fun q q0 q1 => ?_, fun q q0 q1 => ?_, ?_, ?_, ?_, ?_, ?_, ?_⟩
  · rw [k1 q q0 q1]; exact g2 q q0 q1
  · rw [key _ (by omega)]
    split
    · exact hv
    · exact g3 q q0 q1
  · rw [k2 16 (by omega), k2 17 (by omega)]; exact g4
  · rw [k2 18 (by omega)]; exact g5
  · rw [k2 19 (by omega)]; exact g6
  · rw [k2 20 (by omega)]; exact g7
  · rw [key 8 (by omega), key 9 (by omega), key 11 (by omega), key 13 (by omega)]
    rcases rod8 h0 h1 with rfl | rfl | rfl | rfl | rfl | rfl | rfl | rfl <;> simp [sid] at * <;> omega
  · rw [key 10 (by omega), key 12 (by omega), key 14 (by omega), key 15 (by omega)]
    rcases rod8 h0 h1 with rfl | rfl | rfl | rfl | rfl | rfl | rfl | rfl <;> simp [sid] at * <;> omega
theorem wf_ball {a b : Int} (hw : WF w) (hab : (a = -6 ∧ b = -6) ∨ (0 ≤ a ∧ a < 8 ∧ 0 ≤ b ∧ b < men a)) : WF (setw (setw w 16 a) 17 b) := by
  have hl2 : (setw w 16 a).length = 21 := by rw [sw_len, hw.1]
  have key : ∀ j : Int, 0 ≤ j → at_ (setw (setw w 16 a) 17 b) j = if 17 = j then b else if 16 = j then a else at_ w j := fun j hj => by rw [sw_at hl2 (by omega) (by omega) hj, sw_at hw.1 (by omega) (by omega) hj]
  have k2 : ∀ j : Int, 0 ≤ j → j ≠ 16 → j ≠ 17 → at_ (setw (setw w 16 a) 17 b) j = at_ w j := fun j hj h1 h2 => by rw [key j hj, if_neg (by omega), if_neg (by omega)]
  have k16 : at_ (setw (setw w 16 a) 17 b) 16 = a := by rw [key 16 (by omega)]; rfl
  have k17 : at_ (setw (setw w 16 a) 17 b) 17 = b := by rw [key 17 (by omega)]; rfl
  obtain ⟨g1, g2, g3, g4, g5, g6, g7, g8, g9⟩ := hw
  refine ⟨by rw [sw_len, sw_len]; exact g1, fun q q0 q1 => ?_, fun q q0 q1 => ?_, ?_, ?_, ?_, ?_, ?_, ?_⟩
  · rw [k2 q q0 (by omega) (by omega)]; exact g2 q q0 q1
  · rw [k2 _ (by omega) (by omega) (by omega)]; exact g3 q q0 q1
  · rw [k16, k17]; exact hab
  · rw [k2 18 (by omega) (by omega) (by omega)]; exact g5
  · rw [k2 19 (by omega) (by omega) (by omega)]; exact g6
  · rw [k2 20 (by omega) (by omega) (by omega)]; exact g7
  · rw [k2 8 (by omega) (by omega) (by omega), k2 9 (by omega) (by omega) (by omega), k2 11 (by omega) (by omega) (by omega), k2 13 (by omega) (by omega) (by omega)]; exact g8
  · rw [k2 10 (by omega) (by omega) (by omega), k2 12 (by omega) (by omega) (by omega), k2 14 (by omega) (by omega) (by omega), k2 15 (by omega) (by omega) (by omega)]; exact g9
theorem wf_top {i v : Int} (hw : WF w) (hi : i = 18 ∨ i = 19 ∨ i = 20) (h0 : 0 ≤ v) (h1 : i ≠ 20 → v ≤ 10) (h2 : v ≤ 999) : WF (setw w i v) := by
  have key : ∀ j : Int, 0 ≤ j → at_ (setw w i v) j = if i = j then v else at_ w j := fun j hj => sw_at hw.1 (by omega) (by omega) hj
  have k2 : ∀ j : Int, 0 ≤ j → j < 18 → at_ (setw w i v) j = at_ w j := fun j hj h3 => by rw [key j hj, if_neg (by omega)]
  obtain ⟨g1, g2, g3, g4, g5, g6, g7, g8, g9⟩ := hw
  refine ⟨by rw [sw_len]; exact g1, fun q q0 q1 => ?_, fun q q0 q1 => ?_, ?_, ?_, ?_, ?_, ?_, ?_⟩
  · rw [k2 q q0 (by omega)]; exact g2 q q0 q1
  · rw [k2 _ (by omega) (by omega)]; exact g3 q q0 q1
  · rw [k2 16 (by omega) (by omega), k2 17 (by omega) (by omega)]; exact g4
  · rw [key 18 (by omega)]; split <;> omega
  · rw [key 19 (by omega)]; split <;> omega
  · rw [key 20 (by omega)]; split <;> omega
  · rw [k2 8 (by omega) (by omega), k2 9 (by omega) (by omega), k2 11 (by omega) (by omega), k2 13 (by omega) (by omega)]; exact g8
  · rw [k2 10 (by omega) (by omega), k2 12 (by omega) (by omega), k2 14 (by omega) (by omega), k2 15 (by omega) (by omega)]; exact g9
theorem wf_ballE {e : Int} (hw : WF w) (he : manE e) : WF (ballE w e) := by
  obtain ⟨e0, e1, e2⟩ := he
  exact wf_ball hw (Or.inr ⟨by omega, by omega, by omega, e2⟩)
theorem wf_shoE {e : Int} (hw : WF w) (ha : at_ w 16 ≠ -6) (ho : ¬ (at_ w 18 = 10 ∨ at_ w 19 = 10)) (he : e = 80 ∨ manE e) : WF (shoE w e) := by
  obtain ⟨a1, a2, a3, a4⟩ := alive_bd hw ha
  have hs := sid_bd a1 a2
  have g5 := hw.2.2.2.2.1
  have g6 := hw.2.2.2.2.2.1
  unfold shoE
  split
  · refine wf_ball (wf_top hw ?_ ?_ ?_ ?_) (Or.inl ⟨rfl, rfl⟩)
    · omega
    · rcases hs with z | z <;> rw [z] <;> simp only [Int.reduceAdd] <;> omega
    · intro _; rcases hs with z | z <;> rw [z] <;> simp only [Int.reduceAdd] <;> omega
    · rcases hs with z | z <;> rw [z] <;> simp only [Int.reduceAdd] <;> omega
  · next hn =>
    rcases he with z | z
    · exact absurd z hn
    · exact wf_ballE hw z
/-- which acts come to a table: a kind, a rod that is one where the kind has one, a number that fits the kind -/
def actOK (k r n : Int) : Prop := 0 ≤ k ∧ k ≤ 8 ∧ ((k ≤ 3 ∨ k = 5 ∨ k = 7) → 0 ≤ r ∧ r < 8) ∧ -9 ≤ n ∧ n ≤ 9 ∧ (k = 2 ∨ k = 3 → 0 ≤ n)
theorem wf_prf {k r n : Int} (hw : WF w) (ho : actOK k r n) (hy : why w k r n = 0) : WF (prf w k r n) := by
  obtain ⟨k0, k1, kr, n0, n1, n2⟩ := ho
  have g5 := hw.2.2.2.2.1
  have g7 := hw.2.2.2.2.2.2.1
  have : k = 0 ∨ k = 1 ∨ k = 2 ∨ k = 3 ∨ k = 4 ∨ k = 5 ∨ k = 6 ∨ k = 7 ∨ k = 8 := by omega
  rcases this with rfl | rfl | rfl | rfl | rfl | rfl | rfl | rfl | rfl
  · have hr := kr (by omega)
    rw [why_0] at hy
    refine wf_hold hw hr.1 hr.2 (Or.inr rfl) (fun _ => ?_)
    (repeat' split at hy) <;> first | omega | (right; omega)
  · have hr := kr (by omega)
    exact wf_hold hw hr.1 hr.2 (Or.inl rfl) (fun z => by omega)
  · have hr := kr (by omega)
    have a := hw.2.1 r hr.1 hr.2
    rw [why_2] at hy
    refine wf_slide hw hr.1 hr.2 ?_ ?_
    · (repeat' split at hy) <;> omega
    · have := n2 (by omega)
      omega
  · have hr := kr (by omega)
    have a := hw.2.1 r hr.1 hr.2
    rw [why_3] at hy
    refine wf_slide hw hr.1 hr.2 ?_ ?_
    · have := n2 (by omega)
      omega
    · (repeat' split at hy) <;> omega
  · rw [why_4] at hy
    have ha : at_ w 16 ≠ -6 := by (repeat' split at hy) <;> first | omega | assumption
    obtain ⟨a1, a2, a3, a4⟩ := alive_bd hw ha
    refine wf_ball hw (Or.inr ⟨a1, a2, ?_, ?_⟩) <;> (repeat' split at hy) <;> omega
  · have hr := kr (by omega)
    rw [why_5] at hy
    have ha : at_ w 16 ≠ -6 := by (repeat' split at hy) <;> first | omega | assumption
    obtain ⟨a1, a2, a3, a4⟩ := alive_bd hw ha
    rcases ovr_bd hw a1 a2 a3 a4 hr.1 hr.2 with z | z
    · (repeat' split at hy) <;> omega
    · exact wf_ballE hw z
  · rw [why_6] at hy
    have ha : at_ w 16 ≠ -6 := by (repeat' split at hy) <;> first | omega | assumption
    exact wf_shoE hw ha (by (repeat' split at hy) <;> omega) (shot_bd hw ha)
  · have hr := kr (by omega)
    rw [why_7] at hy
    refine wf_ball hw (Or.inr ⟨hr.1, hr.2, ?_, ?_⟩) <;> (repeat' split at hy) <;> omega
  · rw [why_8] at hy
    refine wf_top hw (by omega) (by omega) (fun z => absurd rfl z) ?_
    (repeat' split at hy) <;> omega
theorem sp_prf_0 {r n : Int} (hT : TabAt h t w) (hw : WF w) (h0 : 0 ≤ r) (h1 : r < 8) : Sp xs m_Table_perform [vR t, vI 0, vI r, vI n] h none (tset h t (prf w 0 r n)) := by
  refine en_Table_perform ?_
  refine r_iload_n cd_Table_perform_0 rfl ?_
  refine r_switch (t := 52) cd_Table_perform_1 ⟨by decide, by decide⟩ (by decide) ?_
  refine r_aload_n cd_Table_perform_52 rfl ?_
  refine r_iload_n cd_Table_perform_53 rfl ?_
  refine r_iconst cd_Table_perform_54 ?_
  refine r_vz2 cd_Table_perform_55 rfl ck_Table_perform_Table_setHeld (Nat.le_of_ble_eq_true rfl) hT.1 rfl (sp_setHeld hT hw h0 h1 (Or.inr rfl)) ?_
  refine r_goto cd_Table_perform_58 ?_
  exact r_vret cd_Table_perform_174 rt_Table_perform (by rfl)
theorem sp_prf_1 {r n : Int} (hT : TabAt h t w) (hw : WF w) (h0 : 0 ≤ r) (h1 : r < 8) : Sp xs m_Table_perform [vR t, vI 1, vI r, vI n] h none (tset h t (prf w 1 r n)) := by
  refine en_Table_perform ?_
  refine r_iload_n cd_Table_perform_0 rfl ?_
  refine r_switch (t := 61) cd_Table_perform_1 ⟨by decide, by decide⟩ (by decide) ?_
  refine r_aload_n cd_Table_perform_61 rfl ?_
  refine r_iload_n cd_Table_perform_62 rfl ?_
  refine r_iconst cd_Table_perform_63 ?_
  refine r_vz2 cd_Table_perform_64 rfl ck_Table_perform_Table_setHeld (Nat.le_of_ble_eq_true rfl) hT.1 rfl (sp_setHeld hT hw h0 h1 (Or.inl rfl)) ?_
  refine r_goto cd_Table_perform_67 ?_
  exact r_vret cd_Table_perform_174 rt_Table_perform (by rfl)
theorem sp_prf_2 {r n : Int} (hT : TabAt h t w) (hw : WF w) (h0 : 0 ≤ r) (h1 : r < 8) : Sp xs m_Table_perform [vR t, vI 2, vI r, vI n] h none (tset h t (prf w 2 r n)) := by
  refine en_Table_perform ?_
  refine r_iload_n cd_Table_perform_0 rfl ?_
  refine r_switch (t := 70) cd_Table_perform_1 ⟨by decide, by decide⟩ (by decide) ?_
  refine r_aload_n cd_Table_perform_70 rfl ?_
  refine r_iload_n cd_Table_perform_71 rfl ?_
  refine r_aload_n cd_Table_perform_72 rfl ?_
  refine r_iload_n cd_Table_perform_73 rfl ?_
  refine r_vv1 cd_Table_perform_74 rfl ck_Table_perform_Table_slideOf (Nat.le_of_ble_eq_true rfl) hT.1 rfl (sp_slideOf hT hw h0 h1) ?_
  refine r_iload_n cd_Table_perform_77 rfl ?_
  refine r_isub cd_Table_perform_78 ?_
  refine r_vz2 cd_Table_perform_79 rfl ck_Table_perform_Table_slideTo (Nat.le_of_ble_eq_true rfl) hT.1 rfl (sp_slideTo hT hw h0 h1) ?_
  refine r_goto cd_Table_perform_82 ?_
  exact r_vret cd_Table_perform_174 rt_Table_perform (by rfl)
theorem sp_prf_3 {r n : Int} (hT : TabAt h t w) (hw : WF w) (h0 : 0 ≤ r) (h1 : r < 8) : Sp xs m_Table_perform [vR t, vI 3, vI r, vI n] h none (tset h t (prf w 3 r n)) := by
  refine en_Table_perform ?_
  refine r_iload_n cd_Table_perform_0 rfl ?_
  refine r_switch (t := 85) cd_Table_perform_1 ⟨by decide, by decide⟩ (by decide) ?_
  refine r_aload_n cd_Table_perform_85 rfl ?_
  refine r_iload_n cd_Table_perform_86 rfl ?_
  refine r_aload_n cd_Table_perform_87 rfl ?_
  refine r_iload_n cd_Table_perform_88 rfl ?_
  refine r_vv1 cd_Table_perform_89 rfl ck_Table_perform_Table_slideOf (Nat.le_of_ble_eq_true rfl) hT.1 rfl (sp_slideOf hT hw h0 h1) ?_
  refine r_iload_n cd_Table_perform_92 rfl ?_
  refine r_iadd cd_Table_perform_93 ?_
  refine r_vz2 cd_Table_perform_94 rfl ck_Table_perform_Table_slideTo (Nat.le_of_ble_eq_true rfl) hT.1 rfl (sp_slideTo hT hw h0 h1) ?_
  refine r_goto cd_Table_perform_97 ?_
  exact r_vret cd_Table_perform_174 rt_Table_perform (by rfl)
theorem sp_prf_4 {r n : Int} (hT : TabAt h t w) (hw : WF w) (ha : at_ w 16 ≠ -6) (n0 : 0 ≤ n) (n1 : n < 10) : Sp xs m_Table_perform [vR t, vI 4, vI r, vI n] h none (tset h t (prf w 4 r n)) := by
  obtain ⟨a1, a2, a3, a4⟩ := alive_bd hw ha
  refine en_Table_perform ?_
  refine r_iload_n cd_Table_perform_0 rfl ?_
  refine r_switch (t := 100) cd_Table_perform_1 ⟨by decide, by decide⟩ (by decide) ?_
  refine r_aload_n cd_Table_perform_100 rfl ?_
  refine r_bipush cd_Table_perform_101 ?_
  refine r_aload_n cd_Table_perform_103 rfl ?_
  refine r_getfield cd_Table_perform_104 hT.1 rfl ?_
  refine r_imul cd_Table_perform_107 ?_
  refine r_iload_n cd_Table_perform_108 rfl ?_
  refine r_iadd cd_Table_perform_109 ?_
  refine r_vz1 cd_Table_perform_110 rfl ck_Table_perform_Table_giveBall (Nat.le_of_ble_eq_true rfl) hT.1 rfl (sp_giveBall hT hw.1 a1 a2 n0 n1) ?_
  refine r_goto cd_Table_perform_113 ?_
  exact r_vret cd_Table_perform_174 rt_Table_perform (by rfl)
theorem sp_prf_5 {r n : Int} (hT : TabAt h t w) (hw : WF w) (h0 : 0 ≤ r) (h1 : r < 8) (ha : at_ w 16 ≠ -6) (he : ovr w (at_ w 16) (at_ w 17) r ≠ -1) : Sp xs m_Table_perform [vR t, vI 5, vI r, vI n] h none (tset h t (prf w 5 r n)) := by
  obtain ⟨a1, a2, a3, a4⟩ := alive_bd hw ha
  have hb := ovr_bd hw a1 a2 a3 a4 h0 h1
  refine en_Table_perform ?_
  refine r_iload_n cd_Table_perform_0 rfl ?_
  refine r_switch (t := 116) cd_Table_perform_1 ⟨by decide, by decide⟩ (by decide) ?_
  refine r_aload_n cd_Table_perform_116 rfl ?_
  refine r_aload_n cd_Table_perform_117 rfl ?_
  refine r_aload_n cd_Table_perform_118 rfl ?_
  refine r_getfield cd_Table_perform_119 hT.1 rfl ?_
  refine r_aload_n cd_Table_perform_122 rfl ?_
  refine r_getfield cd_Table_perform_123 hT.1 rfl ?_
  refine r_iload_n cd_Table_perform_126 rfl ?_
  refine r_vv3 cd_Table_perform_127 rfl ck_Table_perform_Table_overFrom (Nat.le_of_ble_eq_true rfl) hT.1 rfl (sp_overFrom hT hw a1 a2 a3 a4 h0 h1) ?_
  refine r_vz1 cd_Table_perform_130 rfl ck_Table_perform_Table_giveBall (Nat.le_of_ble_eq_true rfl) hT.1 rfl (sp_giveE hT hw.1 (by omega) (by omega)) ?_
  refine r_goto cd_Table_perform_133 ?_
  exact r_vret cd_Table_perform_174 rt_Table_perform (by rfl)
theorem sp_prf_6 {r n : Int} (hT : TabAt h t w) (hw : WF w) (ha : at_ w 16 ≠ -6) (n0 : -9 ≤ n) (n1 : n ≤ 9) : Sp xs m_Table_perform [vR t, vI 6, vI r, vI n] h none (tset h t (prf w 6 r n)) := by
  obtain ⟨a1, a2, a3, a4⟩ := alive_bd hw ha
  have hb : 0 ≤ shot w n ∧ shot w n ≤ 80 := by
    rcases shot_bd (d := n) hw ha with z | z
    · omega
    · exact ⟨z.1, by have := z.2.1; omega⟩
  refine en_Table_perform ?_
  refine r_iload_n cd_Table_perform_0 rfl ?_
  refine r_switch (t := 136) cd_Table_perform_1 ⟨by decide, by decide⟩ (by decide) ?_
  refine r_aload_n cd_Table_perform_136 rfl ?_
  refine r_aload_n cd_Table_perform_137 rfl ?_
  refine r_iload_n cd_Table_perform_138 rfl ?_
  refine r_vv1 cd_Table_perform_139 rfl ck_Table_perform_Table_shotEnd (Nat.le_of_ble_eq_true rfl) hT.1 rfl (sp_shotEnd hT hw ha n0 n1) ?_
  refine r_vz1 cd_Table_perform_142 rfl ck_Table_perform_Table_endShot (Nat.le_of_ble_eq_true rfl) hT.1 rfl (sp_endShot hT hw ha (by omega) (by omega)) ?_
  refine r_goto cd_Table_perform_145 ?_
  exact r_vret cd_Table_perform_174 rt_Table_perform (by rfl)
theorem sp_prf_7 {r n : Int} (hT : TabAt h t w) (hw : WF w) (h0 : 0 ≤ r) (h1 : r < 8) (n0 : 0 ≤ n) (n1 : n < 10) : Sp xs m_Table_perform [vR t, vI 7, vI r, vI n] h none (tset h t (prf w 7 r n)) := by
  refine en_Table_perform ?_
  refine r_iload_n cd_Table_perform_0 rfl ?_
  refine r_switch (t := 148) cd_Table_perform_1 ⟨by decide, by decide⟩ (by decide) ?_
  refine r_aload_n cd_Table_perform_148 rfl ?_
  refine r_bipush cd_Table_perform_149 ?_
  refine r_iload_n cd_Table_perform_151 rfl ?_
  refine r_imul cd_Table_perform_152 ?_
  refine r_iload_n cd_Table_perform_153 rfl ?_
  refine r_iadd cd_Table_perform_154 ?_
  refine r_vz1 cd_Table_perform_155 rfl ck_Table_perform_Table_giveBall (Nat.le_of_ble_eq_true rfl) hT.1 rfl (sp_giveBall hT hw.1 h0 h1 n0 n1) ?_
  refine r_goto cd_Table_perform_158 ?_
  exact r_vret cd_Table_perform_174 rt_Table_perform (by rfl)
theorem tset_ten {v : Int} (hT : TabAt h t w) (hl : w.length = 21) : h.set t (.inl (6, [vR (t + 1), vR (t + 2), vI (hbits w), vI (at_ w 16), vI (at_ w 17), vI v])) = tset h t (setw w 20 v) := by
  have key : ∀ j : Int, 0 ≤ j → at_ (setw w 20 v) j = if 20 = j then v else at_ w j := fun j hj => sw_at hl (by omega) (by omega) hj
  have k1 : tobj t (setw w 20 v) = .inl (6, [vR (t + 1), vR (t + 2), vI (hbits w), vI (at_ w 16), vI (at_ w 17), vI v]) := by
    unfold tobj hbits
    rw [key 8 (by omega), key 9 (by omega), key 10 (by omega), key 11 (by omega), key 12 (by omega), key 13 (by omega), key 14 (by omega), key 15 (by omega), key 16 (by omega), key 17 (by omega), key 20 (by omega)]
    rfl
  rw [← k1]
  refine tset_o hT (sw_take (by omega)) ?_ ?_
  · rw [key 18 (by omega)]; rfl
  · rw [key 19 (by omega)]; rfl
theorem sp_prf_8 {r n : Int} (hT : TabAt h t w) (hw : WF w) : Sp xs m_Table_perform [vR t, vI 8, vI r, vI n] h none (tset h t (prf w 8 r n)) := by
  refine en_Table_perform ?_
  refine r_iload_n cd_Table_perform_0 rfl ?_
  refine r_switch (t := 161) cd_Table_perform_1 ⟨by decide, by decide⟩ (by decide) ?_
  refine r_aload_n cd_Table_perform_161 rfl ?_
  refine r_dup cd_Table_perform_162 rfl ?_
  refine r_getfield cd_Table_perform_163 hT.1 rfl ?_
  refine r_iconst cd_Table_perform_166 ?_
  refine r_iadd cd_Table_perform_167 ?_
  refine r_putfield cd_Table_perform_168 hT.1 (Nat.le_of_ble_eq_true rfl) rfl ?_
  refine r_goto cd_Table_perform_171 ?_
  exact r_vret cd_Table_perform_174 rt_Table_perform (by exact tset_ten hT hw.1)
theorem sp_whyNot {k r n : Int} (hT : TabAt h t w) (hw : WF w) (ho : actOK k r n) : Sp xs m_Table_whyNot [vR t, vI k, vI r, vI n] h (some (vI (why w k r n))) h := by
  obtain ⟨k0, k1, kr, n0, n1, n2⟩ := ho
  have : k = 0 ∨ k = 1 ∨ k = 2 ∨ k = 3 ∨ k = 4 ∨ k = 5 ∨ k = 6 ∨ k = 7 ∨ k = 8 := by omega
  rcases this with rfl | rfl | rfl | rfl | rfl | rfl | rfl | rfl | rfl
  · exact sp_why_0 hT hw (kr (by omega)).1 (kr (by omega)).2 (by omega) (by omega)
  · exact sp_why_1 hT hw (kr (by omega)).1 (kr (by omega)).2 (by omega) (by omega)
  · exact sp_why_2 hT hw (kr (by omega)).1 (kr (by omega)).2 (by omega) (by omega)
  · exact sp_why_3 hT hw (kr (by omega)).1 (kr (by omega)).2 (by omega) (by omega)
  · exact sp_why_4 hT hw (by omega) (by omega)
  · exact sp_why_5 hT hw (kr (by omega)).1 (kr (by omega)).2 (by omega) (by omega)
  · exact sp_why_6 hT hw (by omega) (by omega)
  · exact sp_why_7 hT hw (kr (by omega)).1 (kr (by omega)).2 (by omega) (by omega)
  · exact sp_why_8 hT hw (by omega) (by omega)
theorem why_bd {k r n : Int} : 0 ≤ why w k r n ∧ why w k r n ≤ 7 := by
  unfold why
  (repeat' split) <;> omega
theorem sp_perform {k r n : Int} (hT : TabAt h t w) (hw : WF w) (ho : actOK k r n) (hy : why w k r n = 0) : Sp xs m_Table_perform [vR t, vI k, vI r, vI n] h none (tset h t (prf w k r n)) := by
  obtain ⟨k0, k1, kr, n0, n1, n2⟩ := ho
  have : k = 0 ∨ k = 1 ∨ k = 2 ∨ k = 3 ∨ k = 4 ∨ k = 5 ∨ k = 6 ∨ k = 7 ∨ k = 8 := by omega
  rcases this with rfl | rfl | rfl | rfl | rfl | rfl | rfl | rfl | rfl
  · exact sp_prf_0 hT hw (kr (by omega)).1 (kr (by omega)).2
  · exact sp_prf_1 hT hw (kr (by omega)).1 (kr (by omega)).2
  · exact sp_prf_2 hT hw (kr (by omega)).1 (kr (by omega)).2
  · exact sp_prf_3 hT hw (kr (by omega)).1 (kr (by omega)).2
  · rw [why_4] at hy
    have ha : at_ w 16 ≠ -6 := by (repeat' split at hy) <;> first | omega | assumption
    exact sp_prf_4 hT hw ha (by (repeat' split at hy) <;> omega) (by omega)
  · rw [why_5] at hy
    have ha : at_ w 16 ≠ -6 := by (repeat' split at hy) <;> first | omega | assumption
    exact sp_prf_5 hT hw (kr (by omega)).1 (kr (by omega)).2 ha (by (repeat' split at hy) <;> omega)
  · rw [why_6] at hy
    have ha : at_ w 16 ≠ -6 := by (repeat' split at hy) <;> first | omega | assumption
    exact sp_prf_6 hT hw ha n0 n1
  · rw [why_7] at hy
    exact sp_prf_7 hT hw (kr (by omega)).1 (kr (by omega)).2 (by (repeat' split at hy) <;> omega) (by omega)
  · exact sp_prf_8 hT hw
-- a drawn act
def dkind (w : List Int) (x : Int) : Int := if x / 8 % 8 = 7 ∧ at_ w 16 ≠ -6 then 8 else x / 8 % 8
def dnum (k z : Int) : Int := if k = 2 ∨ k = 3 then 1 + z % 9 else if k = 4 ∨ k = 7 then z % 5 else if k = 6 then z % 19 - 9 else 0
def drawn (w : List Int) (x : Int) : List Int := if why w (dkind w x) (x % 8) (dnum (dkind w x) (x / 64)) = 0 then prf w (dkind w x) (x % 8) (dnum (dkind w x) (x / 64)) else w
theorem sp_drawnNumber {k z : Int} (hk : 0 ≤ k ∧ k ≤ 8) (z0 : 0 ≤ z) (z1 : z ≤ 100000) : Sp xs m_Table_drawnNumber [vI k, vI z] h (some (vI (dnum k z))) h := by
  have e1 : z.tmod 9 = z % 9 := Int.tmod_eq_emod_of_nonneg z0
  have e2 : z.tmod 5 = z % 5 := Int.tmod_eq_emod_of_nonneg z0
  have e3 : z.tmod 19 = z % 19 := Int.tmod_eq_emod_of_nonneg z0
  refine en_Table_drawnNumber ?_
  refine r_iload_n cd_Table_drawnNumber_0 rfl ?_
  by_cases s_1_2 : k = 2
  · skip
    rw [s_1_2]
    refine r_switch (t := 40) cd_Table_drawnNumber_1 ⟨by decide, by decide⟩ (by decide) ?_
    refine r_iconst cd_Table_drawnNumber_40 ?_
    refine r_iload_n cd_Table_drawnNumber_41 rfl ?_
    refine r_bipush cd_Table_drawnNumber_42 ?_
    refine r_irem cd_Table_drawnNumber_44 ⟨by omega, by omega⟩ ⟨by decide, by decide⟩ (by decide) ?_
    refine r_iadd cd_Table_drawnNumber_45 ?_
    exact r_iret cd_Table_drawnNumber_46 rt_Table_drawnNumber (by (unfold dnum; (repeat' split) <;> first | rfl | omega)) (by rfl)
  by_cases s_1_3 : k = 3
  · skip
    rw [s_1_3]
    refine r_switch (t := 40) cd_Table_drawnNumber_1 ⟨by decide, by decide⟩ (by decide) ?_
    refine r_iconst cd_Table_drawnNumber_40 ?_
    refine r_iload_n cd_Table_drawnNumber_41 rfl ?_
    refine r_bipush cd_Table_drawnNumber_42 ?_
    refine r_irem cd_Table_drawnNumber_44 ⟨by omega, by omega⟩ ⟨by decide, by decide⟩ (by decide) ?_
    refine r_iadd cd_Table_drawnNumber_45 ?_
    exact r_iret cd_Table_drawnNumber_46 rt_Table_drawnNumber (by (unfold dnum; (repeat' split) <;> first | rfl | omega)) (by rfl)
  by_cases s_1_4 : k = 4
  · skip
    rw [s_1_4]
    refine r_switch (t := 47) cd_Table_drawnNumber_1 ⟨by decide, by decide⟩ (by decide) ?_
    refine r_iload_n cd_Table_drawnNumber_47 rfl ?_
    refine r_iconst cd_Table_drawnNumber_48 ?_
    refine r_irem cd_Table_drawnNumber_49 ⟨by omega, by omega⟩ ⟨by decide, by decide⟩ (by decide) ?_
    exact r_iret cd_Table_drawnNumber_50 rt_Table_drawnNumber (by (unfold dnum; (repeat' split) <;> first | rfl | omega)) (by rfl)
  by_cases s_1_5 : k = 5
  · skip
    rw [s_1_5]
    refine r_switch (t := 59) cd_Table_drawnNumber_1 ⟨by decide, by decide⟩ (by decide) ?_
    refine r_iconst cd_Table_drawnNumber_59 ?_
    exact r_iret cd_Table_drawnNumber_60 rt_Table_drawnNumber (by (unfold dnum; (repeat' split) <;> first | rfl | omega)) (by rfl)
  by_cases s_1_6 : k = 6
  · skip
    rw [s_1_6]
    refine r_switch (t := 51) cd_Table_drawnNumber_1 ⟨by decide, by decide⟩ (by decide) ?_
    refine r_iload_n cd_Table_drawnNumber_51 rfl ?_
    refine r_bipush cd_Table_drawnNumber_52 ?_
    refine r_irem cd_Table_drawnNumber_54 ⟨by omega, by omega⟩ ⟨by decide, by decide⟩ (by decide) ?_
    refine r_bipush cd_Table_drawnNumber_55 ?_
    refine r_isub cd_Table_drawnNumber_57 ?_
    exact r_iret cd_Table_drawnNumber_58 rt_Table_drawnNumber (by (unfold dnum; (repeat' split) <;> first | rfl | omega)) (by rfl)
  by_cases s_1_7 : k = 7
  · skip
    rw [s_1_7]
    refine r_switch (t := 47) cd_Table_drawnNumber_1 ⟨by decide, by decide⟩ (by decide) ?_
    refine r_iload_n cd_Table_drawnNumber_47 rfl ?_
    refine r_iconst cd_Table_drawnNumber_48 ?_
    refine r_irem cd_Table_drawnNumber_49 ⟨by omega, by omega⟩ ⟨by decide, by decide⟩ (by decide) ?_
    exact r_iret cd_Table_drawnNumber_50 rt_Table_drawnNumber (by (unfold dnum; (repeat' split) <;> first | rfl | omega)) (by rfl)
  refine r_switch (t := 59) cd_Table_drawnNumber_1 ⟨by omega, by omega⟩ (by unfold swT; rw [if_pos (by omega)]; rfl) ?_
  refine r_iconst cd_Table_drawnNumber_59 ?_
  exact r_iret cd_Table_drawnNumber_60 rt_Table_drawnNumber (by (unfold dnum; (repeat' split) <;> first | rfl | omega)) (by rfl)
theorem dact_ok {x : Int} (h0 : 0 ≤ x) : actOK (dkind w x) (x % 8) (dnum (dkind w x) (x / 64)) := by
  unfold actOK dnum dkind
  split <;> (repeat' split) <;> omega
theorem wf_drawn {x : Int} (hw : WF w) (h0 : 0 ≤ x) : WF (drawn w x) := by
  unfold drawn
  split
  · next hy => exact wf_prf hw (dact_ok h0) hy
  · exact hw
theorem sp_tryDrawn {x : Int} (hT : TabAt h t w) (hw : WF w) (x0 : 0 ≤ x) (x1 : x < 70000) : Sp xs m_Table_tryDrawn [vR t, vI x] h none (tset h t (drawn w x)) := by
  have e1 : x.tmod 8 = x % 8 := Int.tmod_eq_emod_of_nonneg x0
  have e2 : x.tdiv 8 = x / 8 := Int.tdiv_eq_ediv_of_nonneg x0
  have e3 : (x / 8).tmod 8 = x / 8 % 8 := Int.tmod_eq_emod_of_nonneg (by omega)
  have e4 : x.tdiv 64 = x / 64 := Int.tdiv_eq_ediv_of_nonneg x0
  have ho := dact_ok (w := w) x0
  have hyb := why_bd (w := w) (k := dkind w x) (r := x % 8) (n := dnum (dkind w x) (x / 64))
  have tail : ∀ y2 y3, y2 = x % 8 → y3 = dkind w x → Rn xs m_Table_tryDrawn 29 [vR t, vI x, vI y2, vI y3, vU] [] h none (tset h t (drawn w x)) := by
    intro y2 y3 h2 h3
    subst h2; subst h3
    refine r_iload_n cd_Table_tryDrawn_29 rfl ?_
    refine r_iload_n cd_Table_tryDrawn_30 rfl ?_
    refine r_bipush cd_Table_tryDrawn_31 ?_
    refine r_idiv cd_Table_tryDrawn_33 ⟨by omega, by omega⟩ ⟨by decide, by decide⟩ (by decide) ?_
    refine r_cv2 cd_Table_tryDrawn_34 rfl ck_Table_tryDrawn_Table_drawnNumber rfl (Nat.le_of_ble_eq_true rfl) (sp_drawnNumber ⟨ho.1, ho.2.1⟩ (by omega) (by omega)) ?_
    rw [e4]
    refine r_istore5_4 cd_Table_tryDrawn_37 rfl ?_
    refine r_aload_n cd_Table_tryDrawn_39 rfl ?_
    refine r_iload_n cd_Table_tryDrawn_40 rfl ?_
    refine r_iload_n cd_Table_tryDrawn_41 rfl ?_
    refine r_iload cd_Table_tryDrawn_42 rfl ?_
    refine r_vv3 cd_Table_tryDrawn_44 rfl ck_Table_tryDrawn_Table_whyNot (Nat.le_of_ble_eq_true rfl) hT.1 rfl (sp_whyNot hT hw ho) ?_
    refine r_if_ne cd_Table_tryDrawn_47 ⟨by omega, by omega⟩ (fun c_47 => ?_) (fun c_47 => ?_)
    · skip
      exact r_vret cd_Table_tryDrawn_58 rt_Table_tryDrawn (by unfold drawn; first | rw [if_pos c_47] | (rw [if_neg c_47]; exact (tset_same hT).symm))
    · skip
      refine r_aload_n cd_Table_tryDrawn_50 rfl ?_
      refine r_iload_n cd_Table_tryDrawn_51 rfl ?_
      refine r_iload_n cd_Table_tryDrawn_52 rfl ?_
      refine r_iload cd_Table_tryDrawn_53 rfl ?_
      refine r_vz3 cd_Table_tryDrawn_55 rfl ck_Table_tryDrawn_Table_perform (Nat.le_of_ble_eq_true rfl) hT.1 rfl (sp_perform hT hw ho c_47) ?_
      exact r_vret cd_Table_tryDrawn_58 rt_Table_tryDrawn (by unfold drawn; first | rw [if_pos c_47] | (rw [if_neg c_47]; exact (tset_same hT).symm))
  refine en_Table_tryDrawn ?_
  refine r_iload_n cd_Table_tryDrawn_0 rfl ?_
  refine r_bipush cd_Table_tryDrawn_1 ?_
  refine r_irem cd_Table_tryDrawn_3 ⟨by omega, by omega⟩ ⟨by decide, by decide⟩ (by decide) ?_
  refine r_istoren5_2 cd_Table_tryDrawn_4 rfl ?_
  refine r_iload_n cd_Table_tryDrawn_5 rfl ?_
  refine r_bipush cd_Table_tryDrawn_6 ?_
  refine r_idiv cd_Table_tryDrawn_8 ⟨by omega, by omega⟩ ⟨by decide, by decide⟩ (by decide) ?_
  refine r_bipush cd_Table_tryDrawn_9 ?_
  refine r_irem cd_Table_tryDrawn_11 ⟨by omega, by omega⟩ ⟨by decide, by decide⟩ (by decide) ?_
  refine r_istoren5_3 cd_Table_tryDrawn_12 rfl ?_
  refine r_iload_n cd_Table_tryDrawn_13 rfl ?_
  refine r_bipush cd_Table_tryDrawn_14 ?_
  refine r_icmp_ne cd_Table_tryDrawn_16 ⟨by rw [e2, e3]; omega, by rw [e2, e3]; omega⟩ ⟨by decide, by decide⟩ (fun c_16 => ?_) (fun c_16 => ?_)
  · skip
    exact tail _ _ e1 (by rw [e2, e3] at *; unfold dkind; split <;> first | rfl | omega)
  · skip
    refine r_aload_n cd_Table_tryDrawn_19 rfl ?_
    refine r_vv0 cd_Table_tryDrawn_20 rfl ck_Table_tryDrawn_Table_isDead (Nat.le_of_ble_eq_true rfl) hT.1 rfl (sp_isDead hT hw) ?_
    refine r_ifne_p cd_Table_tryDrawn_23 (fun c_23 => ?_) (fun c_23 => ?_)
    · skip
      exact tail _ _ e1 (by rw [e2, e3] at *; unfold dkind; split <;> first | rfl | omega)
    · skip
      refine r_bipush cd_Table_tryDrawn_26 ?_
      refine r_istoren5_3 cd_Table_tryDrawn_28 rfl ?_
      exact tail _ _ e1 (by rw [e2, e3] at *; unfold dkind; split <;> first | rfl | omega)
end C35
