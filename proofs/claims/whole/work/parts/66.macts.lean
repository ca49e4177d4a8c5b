-- the reference: acts
section C66
variable {xs : List Int} {h : MH} {v : List Int} {mn mc sm om ga mr ma ax : Int}
def act (v : List Int) (k r n : Int) : List Int := if why v k r n = 0 then prf v k r n else v
theorem act_y {k r n : Int} (hy : why v k r n = 0) : act v k r n = prf v k r n := if_pos hy
theorem act_n {k r n : Int} (hy : why v k r n ≠ 0) : act v k r n = v := if_neg hy
theorem wf_act {k r n : Int} (hw : WF v) (ho : actOK k r n) : WF (act v k r n) := by
  unfold act
  split
  · next hy => exact wf_prf hw ho hy
  · exact hw
theorem hcA_but {w : List Int} {s r : Int} (hr : at_ w (8 + r) = 0) (r0 : 0 ≤ r) : ∀ (k : Nat) (q : Int), 0 ≤ q → hcA w s r k q = hcA w s (-1) k q
  | 0, _, _ => rfl
  | k + 1, q, h0 => by
    unfold hcA
    rw [hcA_but hr r0 k (q + 1) (by omega)]
    by_cases z : q = r
    · subst z
      rw [if_neg (fun y => y.2 rfl), hr]
      split <;> rfl
    · by_cases y : sid q = s
      · rw [if_pos ⟨y, z⟩, if_pos ⟨y, by omega⟩]
      · rw [if_neg (fun x => y x.1), if_neg (fun x => y x.1)]
theorem hcn_2 {r : Int} (hw : WF v) (h0 : 0 ≤ r) (h1 : r < 8) : hcn v (sid r) (-1) ≤ 2 := by
  have c0 := hcn_0 (w := v)
  have c1 := hcn_1 (w := v)
  have := hw.2.2.2.2.2.2.2
  rcases sid_bd h0 h1 with z | z <;> rw [z] <;> omega
theorem setw_same {i : Int} (hl : v.length = 21) (h0 : 0 ≤ i) (h1 : i < 21) : setw v i (at_ v i) = v := by
  refine ext_at (n := 21) (by rw [sw_len]; exact hl) hl (fun j j0 j1 => ?_)
  rw [sw_at hl h0 h1 j0]
  split
  · next z => rw [z]
  · rfl
theorem setw_comm {i j a b : Int} (h0 : 0 ≤ i) (h1 : 0 ≤ j) (hn : i ≠ j) : setw (setw v i a) j b = setw (setw v j b) i a := by
  unfold setw
  exact List.set_comm _ _ (by omega)
theorem sp_M_grasp {r n : Int} (hO : h[40]? = some (mob mn mc sm om ga mr ma ax)) (hN : h[42]? = some (.inr (0, v))) (hw : WF v) (h0 : 0 ≤ r) (h1 : r < 8) : Sp xs m_M_grasp [vR 40, vI r] h (some (vI (why v 0 r n))) (h.set 42 (.inr (0, act v 0 r n))) := by
  have hb := hw.2.2.1 r h0 h1
  have h2 := hcn_2 hw h0 h1
  have hs := sid_bd h0 h1
  have hcb := hcA_bd hw (sid r) r 8 0 (by omega) (by omega)
  have hcu : hcn v (sid r) r = hcA v (sid r) r 8 0 := rfl
  have he : at_ v (8 + r) = 0 → hcn v (sid r) r = hcn v (sid r) (-1) := fun q => hcA_but (s := sid r) q h0 8 0 (by omega)
  have w0 := why_0 (w := v) (r := r) (n := n)
  refine en_M_grasp ?_
  refine r_aload_n cd_M_grasp_0 rfl ?_
  refine r_vv0 cd_M_grasp_1 rfl ck_M_grasp_M_isOver (Nat.le_of_ble_eq_true rfl) hO rfl (sp_M_isOver hO hN hw) ?_
  refine r_ifeq_p cd_M_grasp_4 (fun c_4 => ?_) (fun c_4 => ?_)
  · skip
    refine r_aload_n cd_M_grasp_9 rfl ?_
    refine r_getfield cd_M_grasp_10 hO rfl ?_
    refine r_bipush cd_M_grasp_13 ?_
    refine r_iload_n cd_M_grasp_15 rfl ?_
    refine r_iadd cd_M_grasp_16 ?_
    refine r_iaload (N := 21) cd_M_grasp_17 hN (wlen hw) (by omega) (by omega) (by omega) ?_
    refine r_iconst cd_M_grasp_18 ?_
    refine r_icmp_ne cd_M_grasp_19 ⟨by omega, by omega⟩ ⟨by decide, by decide⟩ (fun c_19 => ?_) (fun c_19 => ?_)
    · skip
      refine r_aload_n cd_M_grasp_24 rfl ?_
      refine r_iload_n cd_M_grasp_25 rfl ?_
      refine r_cv1 cd_M_grasp_26 rfl ck_M_grasp_M_sideOf rfl (Nat.le_of_ble_eq_true rfl) (sp_M_sideOf h0 h1) ?_
      refine r_iload_n cd_M_grasp_29 rfl ?_
      refine r_vv2 cd_M_grasp_30 rfl ck_M_grasp_M_held (Nat.le_of_ble_eq_true rfl) hO rfl (sp_M_held hO hN hw ⟨by omega, by omega⟩ ⟨by omega, by omega⟩) ?_
      refine r_iconst cd_M_grasp_33 ?_
      refine r_icmp_ne cd_M_grasp_34 ⟨by omega, by omega⟩ ⟨by decide, by decide⟩ (fun c_34 => ?_) (fun c_34 => ?_)
      · skip
        refine r_aload_n cd_M_grasp_39 rfl ?_
        refine r_getfield cd_M_grasp_40 hO rfl ?_
        refine r_bipush cd_M_grasp_43 ?_
        refine r_iload_n cd_M_grasp_45 rfl ?_
        refine r_iadd cd_M_grasp_46 ?_
        refine r_iconst cd_M_grasp_47 ?_
        refine r_iastore (N := 21) cd_M_grasp_48 hN (wlen hw) (by omega) (by omega) (by omega) ?_
        refine r_iconst cd_M_grasp_49 ?_
        exact r_iret cd_M_grasp_50 rt_M_grasp (by rw [w0, if_neg c_4, if_neg c_19, if_neg (by have := he (by omega); omega)]) (by (rw [if_neg c_4, if_neg c_19, if_neg (by have := he (by omega); omega)] at w0; rw [act_y w0]; rfl))
      · skip
        refine r_iconst cd_M_grasp_37 ?_
        exact r_iret cd_M_grasp_38 rt_M_grasp (by rw [w0, if_neg c_4, if_neg c_19, if_pos (by have := he (by omega); omega)]) (by (rw [if_neg c_4, if_neg c_19, if_pos (by have := he (by omega); omega)] at w0; rw [act_n (by omega)]; exact (set_same hN).symm))
    · skip
      refine r_iconst cd_M_grasp_22 ?_
      exact r_iret cd_M_grasp_23 rt_M_grasp (by rw [w0, if_neg c_4, if_pos c_19]) (by (rw [if_neg c_4, if_pos c_19] at w0; rw [act_n (by omega)]; exact (set_same hN).symm))
  · skip
    refine r_iconst cd_M_grasp_7 ?_
    exact r_iret cd_M_grasp_8 rt_M_grasp (by rw [w0, if_pos c_4]) (by (rw [if_pos c_4] at w0; rw [act_n (by omega)]; exact (set_same hN).symm))
theorem sp_M_letGo {r n : Int} (hO : h[40]? = some (mob mn mc sm om ga mr ma ax)) (hN : h[42]? = some (.inr (0, v))) (hw : WF v) (h0 : 0 ≤ r) (h1 : r < 8) : Sp xs m_M_letGo [vR 40, vI r] h (some (vI (why v 1 r n))) (h.set 42 (.inr (0, act v 1 r n))) := by
  have hb := hw.2.2.1 r h0 h1
  have w0 := why_1 (w := v) (r := r) (n := n)
  refine en_M_letGo ?_
  refine r_aload_n cd_M_letGo_0 rfl ?_
  refine r_vv0 cd_M_letGo_1 rfl ck_M_letGo_M_isOver (Nat.le_of_ble_eq_true rfl) hO rfl (sp_M_isOver hO hN hw) ?_
  refine r_ifeq_p cd_M_letGo_4 (fun c_4 => ?_) (fun c_4 => ?_)
  · skip
    refine r_aload_n cd_M_letGo_9 rfl ?_
    refine r_getfield cd_M_letGo_10 hO rfl ?_
    refine r_bipush cd_M_letGo_13 ?_
    refine r_iload_n cd_M_letGo_15 rfl ?_
    refine r_iadd cd_M_letGo_16 ?_
    refine r_iaload (N := 21) cd_M_letGo_17 hN (wlen hw) (by omega) (by omega) (by omega) ?_
    refine r_if_ne cd_M_letGo_18 ⟨by omega, by omega⟩ (fun c_18 => ?_) (fun c_18 => ?_)
    · skip
      refine r_aload_n cd_M_letGo_23 rfl ?_
      refine r_getfield cd_M_letGo_24 hO rfl ?_
      refine r_bipush cd_M_letGo_27 ?_
      refine r_iload_n cd_M_letGo_29 rfl ?_
      refine r_iadd cd_M_letGo_30 ?_
      refine r_iconst cd_M_letGo_31 ?_
      refine r_iastore (N := 21) cd_M_letGo_32 hN (wlen hw) (by omega) (by omega) (by omega) ?_
      refine r_iconst cd_M_letGo_33 ?_
      exact r_iret cd_M_letGo_34 rt_M_letGo (by rw [w0, if_neg c_4, if_pos (by omega)]) (by (rw [if_neg c_4, if_pos (by omega)] at w0; rw [act_y w0]; rfl))
    · skip
      refine r_iconst cd_M_letGo_21 ?_
      exact r_iret cd_M_letGo_22 rt_M_letGo (by rw [w0, if_neg c_4, if_neg (by omega)]) (by (rw [if_neg c_4, if_neg (by omega)] at w0; rw [act_n (by omega)]; exact (set_same hN).symm))
  · skip
    refine r_iconst cd_M_letGo_7 ?_
    exact r_iret cd_M_letGo_8 rt_M_letGo (by rw [w0, if_pos c_4]) (by (rw [if_pos c_4] at w0; rw [act_n (by omega)]; exact (set_same hN).symm))
theorem sp_M_slideBy {r n b : Int} (hO : h[40]? = some (mob mn mc sm om ga mr ma ax)) (hN : h[42]? = some (.inr (0, v))) (hw : WF v) (h0 : 0 ≤ r) (h1 : r < 8) (n0 : 0 ≤ n) (n1 : n ≤ 9) {k : Int} (hk : (k = 2 ∧ b = -n) ∨ (k = 3 ∧ b = n)) : Sp xs m_M_slideBy [vR 40, vI r, vI b] h (some (vI (why v k r n))) (h.set 42 (.inr (0, act v k r n))) := by
  have hb := hw.2.2.1 r h0 h1
  have hsl := hw.2.1 r h0 h1
  have hwd := wid_bd h0 h1
  have w0 : why v k r n = if at_ v 18 = 10 ∨ at_ v 19 = 10 then 1 else if at_ v (8 + r) ≠ 1 then 3 else if ¬ (0 ≤ at_ v r + b ∧ at_ v r + b ≤ wid r) then 5 else 0 := by
    rcases hk with ⟨rfl, rfl⟩ | ⟨rfl, rfl⟩
    · rw [why_2]
      by_cases y1 : at_ v 18 = 10 ∨ at_ v 19 = 10
      · rw [if_pos y1, if_pos y1]
      rw [if_neg y1, if_neg y1]
      by_cases y2 : at_ v (8 + r) ≠ 1
      · rw [if_pos y2, if_pos y2]
      rw [if_neg y2, if_neg y2]
      by_cases y3 : at_ v r - n < 0
      · rw [if_pos y3, if_pos (by omega)]
      · rw [if_neg y3, if_neg (by omega)]
    · rw [why_3]
      by_cases y1 : at_ v 18 = 10 ∨ at_ v 19 = 10
      · rw [if_pos y1, if_pos y1]
      rw [if_neg y1, if_neg y1]
      by_cases y2 : at_ v (8 + r) ≠ 1
      · rw [if_pos y2, if_pos y2]
      rw [if_neg y2, if_neg y2]
      by_cases y3 : wid r < at_ v r + b
      · rw [if_pos y3, if_pos (by omega)]
      · rw [if_neg y3, if_neg (by omega)]
  have p0 : prf v k r n = setw v r (at_ v r + b) := by
    rcases hk with ⟨rfl, rfl⟩ | ⟨rfl, rfl⟩
    · show setw v r (at_ v r - n) = _
      rw [Int.sub_eq_add_neg]
    · rfl
  refine en_M_slideBy ?_
  refine r_aload_n cd_M_slideBy_0 rfl ?_
  refine r_vv0 cd_M_slideBy_1 rfl ck_M_slideBy_M_isOver (Nat.le_of_ble_eq_true rfl) hO rfl (sp_M_isOver hO hN hw) ?_
  refine r_ifeq_p cd_M_slideBy_4 (fun c_4 => ?_) (fun c_4 => ?_)
  · skip
    refine r_aload_n cd_M_slideBy_9 rfl ?_
    refine r_getfield cd_M_slideBy_10 hO rfl ?_
    refine r_bipush cd_M_slideBy_13 ?_
    refine r_iload_n cd_M_slideBy_15 rfl ?_
    refine r_iadd cd_M_slideBy_16 ?_
    refine r_iaload (N := 21) cd_M_slideBy_17 hN (wlen hw) (by omega) (by omega) (by omega) ?_
    refine r_if_ne cd_M_slideBy_18 ⟨by omega, by omega⟩ (fun c_18 => ?_) (fun c_18 => ?_)
    · skip
      refine r_aload_n cd_M_slideBy_23 rfl ?_
      refine r_getfield cd_M_slideBy_24 hO rfl ?_
      refine r_iload_n cd_M_slideBy_27 rfl ?_
      refine r_iaload (N := 21) cd_M_slideBy_28 hN (wlen hw) (by omega) (by omega) (by omega) ?_
      refine r_iload_n cd_M_slideBy_29 rfl ?_
      refine r_iadd cd_M_slideBy_30 ?_
      refine r_iconst cd_M_slideBy_31 ?_
      refine r_iload_n cd_M_slideBy_32 rfl ?_
      refine r_cv1 cd_M_slideBy_33 rfl ck_M_slideBy_M_widest rfl (Nat.le_of_ble_eq_true rfl) (sp_M_widest h0 h1) ?_
      refine r_cv3 cd_M_slideBy_36 rfl ck_M_slideBy_M_in rfl (Nat.le_of_ble_eq_true rfl) (sp_M_in ⟨by omega, by omega⟩ ⟨by decide, by decide⟩ ⟨by omega, by omega⟩) ?_
      refine r_ifne_p cd_M_slideBy_39 (fun c_39 => ?_) (fun c_39 => ?_)
      · skip
        refine r_aload_n cd_M_slideBy_44 rfl ?_
        refine r_getfield cd_M_slideBy_45 hO rfl ?_
        refine r_iload_n cd_M_slideBy_48 rfl ?_
        refine r_dup2 cd_M_slideBy_49 rfl rfl ?_
        refine r_iaload (N := 21) cd_M_slideBy_50 hN (wlen hw) (by omega) (by omega) (by omega) ?_
        refine r_iload_n cd_M_slideBy_51 rfl ?_
        refine r_iadd cd_M_slideBy_52 ?_
        refine r_iastore (N := 21) cd_M_slideBy_53 hN (wlen hw) (by omega) (by omega) (by omega) ?_
        refine r_iconst cd_M_slideBy_54 ?_
        exact r_iret cd_M_slideBy_55 rt_M_slideBy (by rw [w0, if_neg c_4, if_neg (by omega), if_neg (fun z => z c_39)]) (by (rw [if_neg c_4, if_neg (by omega), if_neg (fun z => z c_39)] at w0; rw [act_y w0, p0]; rfl))
      · skip
        refine r_iconst cd_M_slideBy_42 ?_
        exact r_iret cd_M_slideBy_43 rt_M_slideBy (by rw [w0, if_neg c_4, if_neg (by omega), if_pos c_39]) (by (rw [if_neg c_4, if_neg (by omega), if_pos c_39] at w0; rw [act_n (by omega)]; exact (set_same hN).symm))
    · skip
      refine r_iconst cd_M_slideBy_21 ?_
      exact r_iret cd_M_slideBy_22 rt_M_slideBy (by rw [w0, if_neg c_4, if_pos (by omega)]) (by (rw [if_neg c_4, if_pos (by omega)] at w0; rw [act_n (by omega)]; exact (set_same hN).symm))
  · skip
    refine r_iconst cd_M_slideBy_7 ?_
    exact r_iret cd_M_slideBy_8 rt_M_slideBy (by rw [w0, if_pos c_4]) (by (rw [if_pos c_4] at w0; rw [act_n (by omega)]; exact (set_same hN).symm))
def whq (v : List Int) : Int := if at_ v 18 = 10 ∨ at_ v 19 = 10 then 1 else if at_ v 16 = -6 then 2 else if at_ v (8 + at_ v 16) ≠ 1 then 3 else 0
theorem whq_bd : 0 ≤ whq v ∧ whq v ≤ 3 := by unfold whq; (repeat' split) <;> omega
theorem whq_al (hz : whq v = 0) : at_ v 16 ≠ -6 := by
  intro z
  unfold whq at hz
  rw [if_pos z] at hz
  split at hz <;> omega
theorem why_4q {r n : Int} : why v 4 r n = if whq v ≠ 0 then whq v else if (0 ≤ n ∧ n < men (at_ v 16)) ∧ (n - at_ v 17 = 1 ∨ n - at_ v 17 = -1) then 0 else 6 := by
  rw [why_4]; unfold whq
  by_cases y1 : at_ v 18 = 10 ∨ at_ v 19 = 10
  · rw [if_pos y1, if_pos y1, if_pos (by decide)]
  rw [if_neg y1, if_neg y1]
  by_cases y2 : at_ v 16 = -6
  · rw [if_pos y2, if_pos y2, if_pos (by decide)]
  rw [if_neg y2, if_neg y2]
  by_cases y3 : at_ v (8 + at_ v 16) ≠ 1
  · rw [if_pos y3, if_pos y3, if_pos (by decide)]
  rw [if_neg y3, if_neg y3, if_neg (show ¬ ((0 : Int) ≠ 0) by decide)]
theorem why_5q {r n : Int} : why v 5 r n = if whq v ≠ 0 then whq v else if ovr v (at_ v 16) (at_ v 17) r = -1 then 6 else 0 := by
  rw [why_5]; unfold whq
  by_cases y1 : at_ v 18 = 10 ∨ at_ v 19 = 10
  · rw [if_pos y1, if_pos y1, if_pos (by decide)]
  rw [if_neg y1, if_neg y1]
  by_cases y2 : at_ v 16 = -6
  · rw [if_pos y2, if_pos y2, if_pos (by decide)]
  rw [if_neg y2, if_neg y2]
  by_cases y3 : at_ v (8 + at_ v 16) ≠ 1
  · rw [if_pos y3, if_pos y3, if_pos (by decide)]
  rw [if_neg y3, if_neg y3, if_neg (show ¬ ((0 : Int) ≠ 0) by decide)]
theorem why_6q {r n : Int} : why v 6 r n = whq v := why_6
theorem sp_M_whyNot (hO : h[40]? = some (mob mn mc sm om ga mr ma ax)) (hN : h[42]? = some (.inr (0, v))) (hw : WF v) : Sp xs m_M_whyNot [vR 40] h (some (vI (whq v))) h := by
  have hbl := hw.2.2.2.1
  have hb := fun (q : 0 ≤ at_ v 16) (p : at_ v 16 < 8) => hw.2.2.1 (at_ v 16) q p
  refine en_M_whyNot ?_
  refine r_aload_n cd_M_whyNot_0 rfl ?_
  refine r_vv0 cd_M_whyNot_1 rfl ck_M_whyNot_M_isOver (Nat.le_of_ble_eq_true rfl) hO rfl (sp_M_isOver hO hN hw) ?_
  refine r_ifeq_p cd_M_whyNot_4 (fun c_4 => ?_) (fun c_4 => ?_)
  · skip
    refine r_aload_n cd_M_whyNot_11 rfl ?_
    refine r_getfield cd_M_whyNot_12 hO rfl ?_
    refine r_bipush cd_M_whyNot_15 ?_
    refine r_iaload (N := 21) cd_M_whyNot_17 hN (wlen hw) (by omega) (by omega) (by omega) ?_
    refine r_if_ge cd_M_whyNot_18 ⟨by omega, by omega⟩ (fun c_18 => ?_) (fun c_18 => ?_)
    · skip
      refine r_aload_n cd_M_whyNot_25 rfl ?_
      refine r_getfield cd_M_whyNot_26 hO rfl ?_
      refine r_bipush cd_M_whyNot_29 ?_
      refine r_aload_n cd_M_whyNot_31 rfl ?_
      refine r_getfield cd_M_whyNot_32 hO rfl ?_
      refine r_bipush cd_M_whyNot_35 ?_
      refine r_iaload (N := 21) cd_M_whyNot_37 hN (wlen hw) (by omega) (by omega) (by omega) ?_
      refine r_iadd cd_M_whyNot_38 ?_
      refine r_iaload (N := 21) cd_M_whyNot_39 hN (wlen hw) (by omega) (by omega) (by omega) ?_
      refine r_if_ne cd_M_whyNot_40 ⟨by (have := hb (by omega) (by omega); omega), by (have := hb (by omega) (by omega); omega)⟩ (fun c_40 => ?_) (fun c_40 => ?_)
      · skip
        refine r_iconst cd_M_whyNot_47 ?_
        exact r_iret cd_M_whyNot_48 rt_M_whyNot (by (unfold whq; first | (rw [if_pos c_4]; done) | (rw [if_neg c_4, if_pos (by omega)]; done) | (rw [if_neg c_4, if_neg (by omega), if_pos (by omega)]; done) | (rw [if_neg c_4, if_neg (by omega), if_neg (by have := hb (by omega) (by omega); omega)]; done))) (by rfl)
      · skip
        refine r_iconst cd_M_whyNot_43 ?_
        refine r_goto cd_M_whyNot_44 ?_
        exact r_iret cd_M_whyNot_48 rt_M_whyNot (by (unfold whq; first | (rw [if_pos c_4]; done) | (rw [if_neg c_4, if_pos (by omega)]; done) | (rw [if_neg c_4, if_neg (by omega), if_pos (by omega)]; done) | (rw [if_neg c_4, if_neg (by omega), if_neg (by have := hb (by omega) (by omega); omega)]; done))) (by rfl)
    · skip
      refine r_iconst cd_M_whyNot_21 ?_
      refine r_goto cd_M_whyNot_22 ?_
      exact r_iret cd_M_whyNot_48 rt_M_whyNot (by (unfold whq; first | (rw [if_pos c_4]; done) | (rw [if_neg c_4, if_pos (by omega)]; done) | (rw [if_neg c_4, if_neg (by omega), if_pos (by omega)]; done) | (rw [if_neg c_4, if_neg (by omega), if_neg (by have := hb (by omega) (by omega); omega)]; done))) (by rfl)
  · skip
    refine r_iconst cd_M_whyNot_7 ?_
    refine r_goto cd_M_whyNot_8 ?_
    exact r_iret cd_M_whyNot_48 rt_M_whyNot (by (unfold whq; first | (rw [if_pos c_4]; done) | (rw [if_neg c_4, if_pos (by omega)]; done) | (rw [if_neg c_4, if_neg (by omega), if_pos (by omega)]; done) | (rw [if_neg c_4, if_neg (by omega), if_neg (by have := hb (by omega) (by omega); omega)]; done))) (by rfl)
theorem sp_M_passTo {r n : Int} (hO : h[40]? = some (mob mn mc sm om ga mr ma ax)) (hN : h[42]? = some (.inr (0, v))) (hw : WF v) (n0 : -1000 ≤ n) (n1 : n ≤ 1000) : Sp xs m_M_passTo [vR 40, vI n] h (some (vI (why v 4 r n))) (h.set 42 (.inr (0, act v 4 r n))) := by
  have hq := whq_bd (v := v)
  have hbl := hw.2.2.2.1
  have w0 := why_4q (v := v) (r := r) (n := n)
  have hm := fun (a : 0 ≤ at_ v 16) (b : at_ v 16 < 8) => men_bd a b
  have p0 : prf v 4 r n = setw v 17 n := by
    show setw (setw v 16 (at_ v 16)) 17 n = _
    rw [setw_same hw.1 (by omega) (by omega)]
  by_cases q0 : whq v ≠ 0
  · rw [if_pos q0] at w0
    rw [act_n (by omega), w0, set_same hN]
    refine en_M_passTo ?_
    refine r_aload_n cd_M_passTo_0 rfl ?_
    refine r_vv0 cd_M_passTo_1 rfl ck_M_passTo_M_whyNot (Nat.le_of_ble_eq_true rfl) hO rfl (sp_M_whyNot hO hN hw) ?_
    refine r_istoren3_2 cd_M_passTo_4 rfl ?_
    refine r_iload_n cd_M_passTo_5 rfl ?_
    refine r_if_le cd_M_passTo_6 ⟨by omega, by omega⟩ (fun c_6 => ?_) (fun c_6 => ?_)
    · skip
      omega
    · skip
      refine r_iload_n cd_M_passTo_9 rfl ?_
      exact r_iret cd_M_passTo_10 rt_M_passTo (by first | rfl | omega | (split <;> first | rfl | omega)) (by rfl)
  · rw [if_neg q0] at w0
    have ha := whq_al (v := v) (by omega)
    obtain ⟨a1, a2, a3, a4⟩ := alive_bd hw ha
    have hmm := men_bd a1 a2
    refine en_M_passTo ?_
    refine r_aload_n cd_M_passTo_0 rfl ?_
    refine r_vv0 cd_M_passTo_1 rfl ck_M_passTo_M_whyNot (Nat.le_of_ble_eq_true rfl) hO rfl (sp_M_whyNot hO hN hw) ?_
    refine r_istoren3_2 cd_M_passTo_4 rfl ?_
    refine r_iload_n cd_M_passTo_5 rfl ?_
    refine r_if_le cd_M_passTo_6 ⟨by omega, by omega⟩ (fun c_6 => ?_) (fun c_6 => ?_)
    · skip
      refine r_aload_n cd_M_passTo_11 rfl ?_
      refine r_getfield cd_M_passTo_12 hO rfl ?_
      refine r_bipush cd_M_passTo_15 ?_
      refine r_iaload (N := 21) cd_M_passTo_17 hN (wlen hw) (by omega) (by omega) (by omega) ?_
      refine r_iload_n cd_M_passTo_18 rfl ?_
      refine r_cv2 cd_M_passTo_19 rfl ck_M_passTo_M_isMan rfl (Nat.le_of_ble_eq_true rfl) (sp_M_isMan (by constructor <;> omega) (by constructor <;> omega)) ?_
      refine r_ifeq_p cd_M_passTo_22 (fun c_22 => ?_) (fun c_22 => ?_)
      · skip
        refine r_bipush cd_M_passTo_51 ?_
        exact r_iret cd_M_passTo_53 rt_M_passTo (by (rw [w0, if_neg (fun z => by first | exact c_22 ⟨z.1.1, a1, a2, z.1.2⟩ | (have := z.2; omega))])) (by (rw [if_neg (fun z => by first | exact c_22 ⟨z.1.1, a1, a2, z.1.2⟩ | (have := z.2; omega))] at w0; rw [act_n (by omega)]; exact (set_same hN).symm))
      · skip
        refine r_iload_n cd_M_passTo_25 rfl ?_
        refine r_aload_n cd_M_passTo_26 rfl ?_
        refine r_getfield cd_M_passTo_27 hO rfl ?_
        refine r_bipush cd_M_passTo_30 ?_
        refine r_iaload (N := 21) cd_M_passTo_32 hN (wlen hw) (by omega) (by omega) (by omega) ?_
        refine r_iconst cd_M_passTo_33 ?_
        refine r_iadd cd_M_passTo_34 ?_
        refine r_icmp_eq cd_M_passTo_35 ⟨by omega, by omega⟩ ⟨by omega, by omega⟩ (fun c_35 => ?_) (fun c_35 => ?_)
        · skip
          refine r_aload_n cd_M_passTo_54 rfl ?_
          refine r_getfield cd_M_passTo_55 hO rfl ?_
          refine r_bipush cd_M_passTo_58 ?_
          refine r_iload_n cd_M_passTo_60 rfl ?_
          refine r_iastore (N := 21) cd_M_passTo_61 hN (wlen hw) (by omega) (by omega) (by omega) ?_
          refine r_iconst cd_M_passTo_62 ?_
          exact r_iret cd_M_passTo_63 rt_M_passTo (by (rw [w0, if_pos ⟨⟨c_22.1, c_22.2.2.2⟩, by omega⟩])) (by (rw [if_pos ⟨⟨c_22.1, c_22.2.2.2⟩, by omega⟩] at w0; rw [act_y w0, p0]; rfl))
        · skip
          refine r_iload_n cd_M_passTo_38 rfl ?_
          refine r_aload_n cd_M_passTo_39 rfl ?_
          refine r_getfield cd_M_passTo_40 hO rfl ?_
          refine r_bipush cd_M_passTo_43 ?_
          refine r_iaload (N := 21) cd_M_passTo_45 hN (wlen hw) (by omega) (by omega) (by omega) ?_
          refine r_iconst cd_M_passTo_46 ?_
          refine r_isub cd_M_passTo_47 ?_
          refine r_icmp_eq cd_M_passTo_48 ⟨by omega, by omega⟩ ⟨by omega, by omega⟩ (fun c_48 => ?_) (fun c_48 => ?_)
          · skip
            refine r_aload_n cd_M_passTo_54 rfl ?_
            refine r_getfield cd_M_passTo_55 hO rfl ?_
            refine r_bipush cd_M_passTo_58 ?_
            refine r_iload_n cd_M_passTo_60 rfl ?_
            refine r_iastore (N := 21) cd_M_passTo_61 hN (wlen hw) (by omega) (by omega) (by omega) ?_
            refine r_iconst cd_M_passTo_62 ?_
            exact r_iret cd_M_passTo_63 rt_M_passTo (by (rw [w0, if_pos ⟨⟨c_22.1, c_22.2.2.2⟩, by omega⟩])) (by (rw [if_pos ⟨⟨c_22.1, c_22.2.2.2⟩, by omega⟩] at w0; rw [act_y w0, p0]; rfl))
          · skip
            refine r_bipush cd_M_passTo_51 ?_
            exact r_iret cd_M_passTo_53 rt_M_passTo (by (rw [w0, if_neg (fun z => by first | exact c_22 ⟨z.1.1, a1, a2, z.1.2⟩ | (have := z.2; omega))])) (by (rw [if_neg (fun z => by first | exact c_22 ⟨z.1.1, a1, a2, z.1.2⟩ | (have := z.2; omega))] at w0; rw [act_n (by omega)]; exact (set_same hN).symm))
    · skip
      omega
theorem sp_M_passOver {r n : Int} (hO : h[40]? = some (mob mn mc sm om ga mr ma ax)) (hN : h[42]? = some (.inr (0, v))) (hw : WF v) (h0 : 0 ≤ r) (h1 : r < 8) : ∃ om', Sp xs m_M_passOver [vR 40, vI r] h (some (vI (why v 5 r n))) ((h.set 42 (.inr (0, act v 5 r n))).set 40 (mob mn mc sm om' ga mr ma ax)) := by
  have hq := whq_bd (v := v)
  have w0 := why_5q (v := v) (r := r) (n := n)
  by_cases q0 : whq v ≠ 0
  · refine ⟨om, ?_⟩
    rw [if_pos q0] at w0
    rw [act_n (by omega), w0, set_same hN, set_same hO]
    refine en_M_passOver ?_
    refine r_aload_n cd_M_passOver_0 rfl ?_
    refine r_vv0 cd_M_passOver_1 rfl ck_M_passOver_M_whyNot (Nat.le_of_ble_eq_true rfl) hO rfl (sp_M_whyNot hO hN hw) ?_
    refine r_istoren4_2 cd_M_passOver_4 rfl ?_
    refine r_iload_n cd_M_passOver_5 rfl ?_
    refine r_if_le cd_M_passOver_6 ⟨by omega, by omega⟩ (fun c_6 => ?_) (fun c_6 => ?_)
    · skip
      omega
    · skip
      refine r_iload_n cd_M_passOver_9 rfl ?_
      exact r_iret cd_M_passOver_10 rt_M_passOver (by first | rfl | omega | (split <;> first | rfl | omega)) (by rfl)
  · rw [if_neg q0] at w0
    have ha := whq_al (v := v) (by omega)
    obtain ⟨a1, a2, a3, a4⟩ := alive_bd hw ha
    obtain ⟨om', ho, hS⟩ := sp_M_overBy (xs := xs) hO hN hw a1 a2 a3 a4 h0 h1
    have hov := ovr_bd hw a1 a2 a3 a4 h0 h1
    refine ⟨om', ?_⟩
    have hO2 : (h.set 40 (mob mn mc sm om' ga mr ma ax))[40]? = some (mob mn mc sm om' ga mr ma ax) := gs_eq hO
    have hN2 : (h.set 40 (mob mn mc sm om' ga mr ma ax))[42]? = some (.inr (0, v)) := gs_ne (by omega) hN
    unfold ovn at hS
    by_cases q1 : ovr v (at_ v 16) (at_ v 17) r = -1
    · rw [if_pos q1] at w0 hS
      rw [act_n (by omega), w0, set_same hN]
      refine en_M_passOver ?_
      refine r_aload_n cd_M_passOver_0 rfl ?_
      refine r_vv0 cd_M_passOver_1 rfl ck_M_passOver_M_whyNot (Nat.le_of_ble_eq_true rfl) hO rfl (sp_M_whyNot hO hN hw) ?_
      refine r_istoren4_2 cd_M_passOver_4 rfl ?_
      refine r_iload_n cd_M_passOver_5 rfl ?_
      refine r_if_le cd_M_passOver_6 ⟨by omega, by omega⟩ (fun c_6 => ?_) (fun c_6 => ?_)
      · skip
        refine r_aload_n cd_M_passOver_11 rfl ?_
        refine r_aload_n cd_M_passOver_12 rfl ?_
        refine r_getfield cd_M_passOver_13 hO rfl ?_
        refine r_bipush cd_M_passOver_16 ?_
        refine r_iaload (N := 21) cd_M_passOver_18 hN (wlen hw) (by omega) (by omega) (by omega) ?_
        refine r_aload_n cd_M_passOver_19 rfl ?_
        refine r_getfield cd_M_passOver_20 hO rfl ?_
        refine r_bipush cd_M_passOver_23 ?_
        refine r_iaload (N := 21) cd_M_passOver_25 hN (wlen hw) (by omega) (by omega) (by omega) ?_
        refine r_iload_n cd_M_passOver_26 rfl ?_
        refine r_vv3 cd_M_passOver_27 rfl ck_M_passOver_M_overBy (Nat.le_of_ble_eq_true rfl) hO rfl hS ?_
        refine r_istoren4_3 cd_M_passOver_30 rfl ?_
        refine r_iload_n cd_M_passOver_31 rfl ?_
        refine r_if_ge cd_M_passOver_32 ⟨by omega, by omega⟩ (fun c_32 => ?_) (fun c_32 => ?_)
        · skip
          exact absurd c_32 (by decide)
        · skip
          refine r_bipush cd_M_passOver_35 ?_
          exact r_iret cd_M_passOver_37 rt_M_passOver (by rfl) (by rfl)
      · skip
        omega
    · rw [if_neg q1] at w0 hS
      have hm := ho q1
      have p0 : prf v 5 r n = setw (setw v 16 (ovr v (at_ v 16) (at_ v 17) r / 10)) 17 (ovr v (at_ v 16) (at_ v 17) r % 10) := rfl
      rw [act_y w0, w0, p0]
      refine en_M_passOver ?_
      refine r_aload_n cd_M_passOver_0 rfl ?_
      refine r_vv0 cd_M_passOver_1 rfl ck_M_passOver_M_whyNot (Nat.le_of_ble_eq_true rfl) (by first | exact hO | exact hO2) rfl (sp_M_whyNot hO hN hw) ?_
      refine r_istoren4_2 cd_M_passOver_4 rfl ?_
      refine r_iload_n cd_M_passOver_5 rfl ?_
      refine r_if_le cd_M_passOver_6 ⟨by omega, by omega⟩ (fun c_6 => ?_) (fun c_6 => ?_)
      · skip
        refine r_aload_n cd_M_passOver_11 rfl ?_
        refine r_aload_n cd_M_passOver_12 rfl ?_
        refine r_getfield cd_M_passOver_13 (by first | exact hO | exact hO2) rfl ?_
        refine r_bipush cd_M_passOver_16 ?_
        refine r_iaload (N := 21) cd_M_passOver_18 (by first | exact hN | exact hN2) (wlen hw) (by omega) (by omega) (by omega) ?_
        refine r_aload_n cd_M_passOver_19 rfl ?_
        refine r_getfield cd_M_passOver_20 (by first | exact hO | exact hO2) rfl ?_
        refine r_bipush cd_M_passOver_23 ?_
        refine r_iaload (N := 21) cd_M_passOver_25 (by first | exact hN | exact hN2) (wlen hw) (by omega) (by omega) (by omega) ?_
        refine r_iload_n cd_M_passOver_26 rfl ?_
        refine r_vv3 cd_M_passOver_27 rfl ck_M_passOver_M_overBy (Nat.le_of_ble_eq_true rfl) (by first | exact hO | exact hO2) rfl hS ?_
        refine r_istoren4_3 cd_M_passOver_30 rfl ?_
        refine r_iload_n cd_M_passOver_31 rfl ?_
        refine r_if_ge cd_M_passOver_32 ⟨by omega, by omega⟩ (fun c_32 => ?_) (fun c_32 => ?_)
        · skip
          refine r_aload_n cd_M_passOver_38 rfl ?_
          refine r_getfield cd_M_passOver_39 (by first | exact hO | exact hO2) rfl ?_
          refine r_bipush cd_M_passOver_42 ?_
          refine r_iload_n cd_M_passOver_44 rfl ?_
          refine r_iastore (N := 21) cd_M_passOver_45 (by first | exact hN | exact hN2) (wlen hw) (by omega) (by omega) (by omega) ?_
          refine r_aload_n cd_M_passOver_46 rfl ?_
          refine r_getfield cd_M_passOver_47 (gs_ne (by omega) (by first | exact hO | exact hO2)) rfl ?_
          refine r_bipush cd_M_passOver_50 ?_
          refine r_aload_n cd_M_passOver_52 rfl ?_
          refine r_getfield cd_M_passOver_53 (gs_ne (by omega) (by first | exact hO | exact hO2)) rfl ?_
          refine r_iastore (N := 21) cd_M_passOver_56 (gs_eq (by first | exact hN | exact hN2)) (lset (wlen hw)) (by omega) (by omega) (by omega) ?_
          refine r_iconst cd_M_passOver_57 ?_
          exact r_iret cd_M_passOver_58 rt_M_passOver (by rfl) (by (rw [List.set_set, set_comm (by omega), ← hm]; rfl))
        · skip
          omega
      · skip
        omega
theorem sp_M_shoot {r d : Int} (hO : h[40]? = some (mob mn mc sm om ga mr ma ax)) (hN : h[42]? = some (.inr (0, v))) (hw : WF v) (d0 : -9 ≤ d) (d1 : d ≤ 9) : ∃ sm', Sp xs m_M_shoot [vR 40, vI d] h (some (vI (why v 6 r d))) ((h.set 42 (.inr (0, act v 6 r d))).set 40 (mob mn mc sm' om ga mr ma ax)) := by
  have hq := whq_bd (v := v)
  have w0 := why_6q (v := v) (r := r) (n := d)
  by_cases q0 : whq v ≠ 0
  · refine ⟨sm, ?_⟩
    rw [act_n (by omega), w0, set_same hN, set_same hO]
    refine en_M_shoot ?_
    refine r_aload_n cd_M_shoot_0 rfl ?_
    refine r_vv0 cd_M_shoot_1 rfl ck_M_shoot_M_whyNot (Nat.le_of_ble_eq_true rfl) hO rfl (sp_M_whyNot hO hN hw) ?_
    refine r_istoren5_2 cd_M_shoot_4 rfl ?_
    refine r_iload_n cd_M_shoot_5 rfl ?_
    refine r_if_le cd_M_shoot_6 ⟨by omega, by omega⟩ (fun c_6 => ?_) (fun c_6 => ?_)
    · skip
      omega
    · skip
      refine r_iload_n cd_M_shoot_9 rfl ?_
      exact r_iret cd_M_shoot_10 rt_M_shoot (by first | rfl | omega | (split <;> first | rfl | omega)) (by rfl)
  · have ha := whq_al (v := v) (by omega)
    obtain ⟨a1, a2, a3, a4⟩ := alive_bd hw ha
    have hs := sid_bd a1 a2
    have hS := sp_M_shotBy (xs := xs) hO hN hw ha d0 d1
    have hsn : 0 ≤ shot v d ∧ shot v d ≤ 80 ∧ (shot v d = 80 ∨ shot v d < 80) := by
      rcases shot_bd (d := d) hw ha with z | z
      · omega
      · have := z.1; have := z.2.1; omega
    refine ⟨shot v d % 10, ?_⟩
    have hO2 : (h.set 40 (mob mn mc (shot v d % 10) om ga mr ma ax))[40]? = some (mob mn mc (shot v d % 10) om ga mr ma ax) := gs_eq hO
    have hN2 : (h.set 40 (mob mn mc (shot v d % 10) om ga mr ma ax))[42]? = some (.inr (0, v)) := gs_ne (by omega) hN
    have hg := hw.2.2.2.2
    have l1 : (setw v 16 (-6)).length = 21 := by rw [sw_len]; exact hw.1
    have l2 : (setw (setw v 16 (-6)) 17 (-6)).length = 21 := by rw [sw_len]; exact l1
    by_cases q1 : shot v d = 80
    · have p0 : prf v 6 r d = setw (setw (setw v 16 (-6)) 17 (-6)) (18 + sid (at_ v 16)) (at_ (setw (setw v 16 (-6)) 17 (-6)) (18 + sid (at_ v 16)) + 1) := by
        show shoE v (shot v d) = _
        unfold shoE
        rw [if_pos q1, sw_at l1 (by omega) (by omega) (by omega), if_neg (by omega), sw_at hw.1 (by omega) (by omega) (by omega), if_neg (by omega)]
        rw [setw_comm (v := setw v 16 (-6)) (by omega) (by omega) (by omega), setw_comm (v := v) (by omega) (by omega) (by omega)]
      rw [act_y (by omega), w0, p0, show whq v = 0 by omega]
      rw [show shot v d / 10 = 8 by omega] at hS
      refine en_M_shoot ?_
      refine r_aload_n cd_M_shoot_0 rfl ?_
      refine r_vv0 cd_M_shoot_1 rfl ck_M_shoot_M_whyNot (Nat.le_of_ble_eq_true rfl) (by first | exact hO | exact hO2) rfl (sp_M_whyNot hO hN hw) ?_
      refine r_istoren5_2 cd_M_shoot_4 rfl ?_
      refine r_iload_n cd_M_shoot_5 rfl ?_
      refine r_if_le cd_M_shoot_6 ⟨by omega, by omega⟩ (fun c_6 => ?_) (fun c_6 => ?_)
      · skip
        refine r_aload_n cd_M_shoot_11 rfl ?_
        refine r_getfield cd_M_shoot_12 (by first | exact hO | exact hO2) rfl ?_
        refine r_bipush cd_M_shoot_15 ?_
        refine r_iaload (N := 21) cd_M_shoot_17 (by first | exact hN | exact hN2) (wlen hw) (by omega) (by omega) (by omega) ?_
        refine r_cv1 cd_M_shoot_18 rfl ck_M_shoot_M_sideOf rfl (Nat.le_of_ble_eq_true rfl) (sp_M_sideOf a1 a2) ?_
        refine r_istoren5_3 cd_M_shoot_21 rfl ?_
        refine r_aload_n cd_M_shoot_22 rfl ?_
        refine r_iload_n cd_M_shoot_23 rfl ?_
        refine r_vv1 cd_M_shoot_24 rfl ck_M_shoot_M_shotBy (Nat.le_of_ble_eq_true rfl) (by first | exact hO | exact hO2) rfl hS ?_
        refine r_istore5_4 cd_M_shoot_27 rfl ?_
        refine r_aload_n cd_M_shoot_29 rfl ?_
        refine r_getfield cd_M_shoot_30 (by first | exact hO | exact hO2) rfl ?_
        refine r_bipush cd_M_shoot_33 ?_
        refine r_iload cd_M_shoot_35 rfl ?_
        refine r_bipush cd_M_shoot_37 ?_
        refine r_icmp_ne cd_M_shoot_39 ⟨by decide, by decide⟩ ⟨by decide, by decide⟩ (fun c_39 => absurd c_39 (by decide)) (fun _ => ?_)
        refine r_bipush cd_M_shoot_42 ?_
        refine r_goto cd_M_shoot_44 ?_
        refine r_iastore (N := 21) cd_M_shoot_49 (by first | exact hN | exact hN2) (wlen hw) (by omega) (by omega) (by omega) ?_
        refine r_aload_n cd_M_shoot_50 rfl ?_
        refine r_getfield cd_M_shoot_51 (gs_ne (by omega) (by first | exact hO | exact hO2)) rfl ?_
        refine r_bipush cd_M_shoot_54 ?_
        refine r_iload cd_M_shoot_56 rfl ?_
        refine r_bipush cd_M_shoot_58 ?_
        refine r_icmp_ne cd_M_shoot_60 ⟨by decide, by decide⟩ ⟨by decide, by decide⟩ (fun c_60 => absurd c_60 (by decide)) (fun _ => ?_)
        refine r_bipush cd_M_shoot_63 ?_
        refine r_goto cd_M_shoot_65 ?_
        refine r_iastore (N := 21) cd_M_shoot_72 (gs_eq (by first | exact hN | exact hN2)) (lset (wlen hw)) (by omega) (by omega) (by omega) ?_
        refine r_aload_n cd_M_shoot_73 rfl ?_
        refine r_getfield cd_M_shoot_74 (gs_ne (by omega) (gs_ne (by omega) (by first | exact hO | exact hO2))) rfl ?_
        refine r_bipush cd_M_shoot_77 ?_
        refine r_iload_n cd_M_shoot_79 rfl ?_
        refine r_iadd cd_M_shoot_80 ?_
        refine r_dup2 cd_M_shoot_81 rfl rfl ?_
        refine r_iaload (N := 21) cd_M_shoot_82 (gs_eq (gs_eq (by first | exact hN | exact hN2))) (lset (lset (wlen hw))) (by omega) (by omega) (by omega) ?_
        refine r_iload cd_M_shoot_83 rfl ?_
        refine r_bipush cd_M_shoot_85 ?_
        refine r_icmp_ne cd_M_shoot_87 ⟨by decide, by decide⟩ ⟨by decide, by decide⟩ (fun c_87 => absurd c_87 (by decide)) (fun _ => ?_)
        refine r_iconst cd_M_shoot_90 ?_
        refine r_goto cd_M_shoot_91 ?_
        refine r_iadd cd_M_shoot_95 ?_
        refine r_iastore (N := 21) cd_M_shoot_96 (gs_eq (gs_eq (by first | exact hN | exact hN2))) (lset (lset (wlen hw))) (by omega) (by omega) (by omega) ?_
        refine r_iconst cd_M_shoot_97 ?_
        exact r_iret cd_M_shoot_98 rt_M_shoot (by rfl) (by (rw [List.set_set, List.set_set, set_comm (by omega)]; rfl))
      · skip
        omega
    · have p0 : prf v 6 r d = setw (setw (setw v 16 (shot v d / 10)) 17 (shot v d % 10)) (18 + sid (at_ v 16)) (at_ (setw (setw v 16 (shot v d / 10)) 17 (shot v d % 10)) (18 + sid (at_ v 16)) + 0) := by
        show shoE v (shot v d) = _
        unfold shoE
        rw [if_neg q1, Int.add_zero, setw_same (by rw [sw_len, sw_len]; exact hw.1) (by omega) (by omega)]
        rfl
      rw [act_y (by omega), w0, p0, show whq v = 0 by omega]
      refine en_M_shoot ?_
      refine r_aload_n cd_M_shoot_0 rfl ?_
      refine r_vv0 cd_M_shoot_1 rfl ck_M_shoot_M_whyNot (Nat.le_of_ble_eq_true rfl) (by first | exact hO | exact hO2) rfl (sp_M_whyNot hO hN hw) ?_
      refine r_istoren5_2 cd_M_shoot_4 rfl ?_
      refine r_iload_n cd_M_shoot_5 rfl ?_
      refine r_if_le cd_M_shoot_6 ⟨by omega, by omega⟩ (fun c_6 => ?_) (fun c_6 => ?_)
      · skip
        refine r_aload_n cd_M_shoot_11 rfl ?_
        refine r_getfield cd_M_shoot_12 (by first | exact hO | exact hO2) rfl ?_
        refine r_bipush cd_M_shoot_15 ?_
        refine r_iaload (N := 21) cd_M_shoot_17 (by first | exact hN | exact hN2) (wlen hw) (by omega) (by omega) (by omega) ?_
        refine r_cv1 cd_M_shoot_18 rfl ck_M_shoot_M_sideOf rfl (Nat.le_of_ble_eq_true rfl) (sp_M_sideOf a1 a2) ?_
        refine r_istoren5_3 cd_M_shoot_21 rfl ?_
        refine r_aload_n cd_M_shoot_22 rfl ?_
        refine r_iload_n cd_M_shoot_23 rfl ?_
        refine r_vv1 cd_M_shoot_24 rfl ck_M_shoot_M_shotBy (Nat.le_of_ble_eq_true rfl) (by first | exact hO | exact hO2) rfl hS ?_
        refine r_istore5_4 cd_M_shoot_27 rfl ?_
        refine r_aload_n cd_M_shoot_29 rfl ?_
        refine r_getfield cd_M_shoot_30 (by first | exact hO | exact hO2) rfl ?_
        refine r_bipush cd_M_shoot_33 ?_
        refine r_iload cd_M_shoot_35 rfl ?_
        refine r_bipush cd_M_shoot_37 ?_
        refine r_icmp_ne cd_M_shoot_39 ⟨by omega, by omega⟩ ⟨by decide, by decide⟩ (fun c_39 => ?_) (fun c_39 => ?_)
        · skip
          refine r_iload cd_M_shoot_47 rfl ?_
          refine r_iastore (N := 21) cd_M_shoot_49 (by first | exact hN | exact hN2) (wlen hw) (by omega) (by omega) (by omega) ?_
          refine r_aload_n cd_M_shoot_50 rfl ?_
          refine r_getfield cd_M_shoot_51 (gs_ne (by omega) (by first | exact hO | exact hO2)) rfl ?_
          refine r_bipush cd_M_shoot_54 ?_
          refine r_iload cd_M_shoot_56 rfl ?_
          refine r_bipush cd_M_shoot_58 ?_
          refine r_icmp_ne cd_M_shoot_60 ⟨by omega, by omega⟩ ⟨by decide, by decide⟩ (fun c_60 => ?_) (fun c_60 => ?_)
          · skip
            refine r_aload_n cd_M_shoot_68 rfl ?_
            refine r_getfield cd_M_shoot_69 (gs_ne (by omega) (by first | exact hO | exact hO2)) rfl ?_
            refine r_iastore (N := 21) cd_M_shoot_72 (gs_eq (by first | exact hN | exact hN2)) (lset (wlen hw)) (by omega) (by omega) (by omega) ?_
            refine r_aload_n cd_M_shoot_73 rfl ?_
            refine r_getfield cd_M_shoot_74 (gs_ne (by omega) (gs_ne (by omega) (by first | exact hO | exact hO2))) rfl ?_
            refine r_bipush cd_M_shoot_77 ?_
            refine r_iload_n cd_M_shoot_79 rfl ?_
            refine r_iadd cd_M_shoot_80 ?_
            refine r_dup2 cd_M_shoot_81 rfl rfl ?_
            refine r_iaload (N := 21) cd_M_shoot_82 (gs_eq (gs_eq (by first | exact hN | exact hN2))) (lset (lset (wlen hw))) (by omega) (by omega) (by omega) ?_
            refine r_iload cd_M_shoot_83 rfl ?_
            refine r_bipush cd_M_shoot_85 ?_
            refine r_icmp_ne cd_M_shoot_87 ⟨by omega, by omega⟩ ⟨by decide, by decide⟩ (fun c_87 => ?_) (fun c_87 => ?_)
            · skip
              refine r_iconst cd_M_shoot_94 ?_
              refine r_iadd cd_M_shoot_95 ?_
              refine r_iastore (N := 21) cd_M_shoot_96 (gs_eq (gs_eq (by first | exact hN | exact hN2))) (lset (lset (wlen hw))) (by omega) (by omega) (by omega) ?_
              refine r_iconst cd_M_shoot_97 ?_
              exact r_iret cd_M_shoot_98 rt_M_shoot (by rfl) (by (rw [List.set_set, List.set_set, set_comm (by omega)]; rfl))
            · skip
              omega
          · skip
            omega
        · skip
          omega
      · skip
        omega
theorem sp_M_throwIn {r n : Int} (hO : h[40]? = some (mob mn mc sm om ga mr ma ax)) (hN : h[42]? = some (.inr (0, v))) (hw : WF v) (h0 : 0 ≤ r) (h1 : r < 8) (n0 : -1000 ≤ n) (n1 : n ≤ 1000) : Sp xs m_M_throwIn [vR 40, vI r, vI n] h (some (vI (why v 7 r n))) (h.set 42 (.inr (0, act v 7 r n))) := by
  have hbl := hw.2.2.2.1
  have w0 := why_7 (w := v) (r := r) (n := n)
  have p0 : prf v 7 r n = setw (setw v 16 r) 17 n := rfl
  refine en_M_throwIn ?_
  refine r_aload_n cd_M_throwIn_0 rfl ?_
  refine r_vv0 cd_M_throwIn_1 rfl ck_M_throwIn_M_isOver (Nat.le_of_ble_eq_true rfl) hO rfl (sp_M_isOver hO hN hw) ?_
  refine r_ifeq_p cd_M_throwIn_4 (fun c_4 => ?_) (fun c_4 => ?_)
  · skip
    refine r_aload_n cd_M_throwIn_9 rfl ?_
    refine r_getfield cd_M_throwIn_10 hO rfl ?_
    refine r_bipush cd_M_throwIn_13 ?_
    refine r_iaload (N := 21) cd_M_throwIn_15 hN (wlen hw) (by omega) (by omega) (by omega) ?_
    refine r_if_lt cd_M_throwIn_16 ⟨by omega, by omega⟩ (fun c_16 => ?_) (fun c_16 => ?_)
    · skip
      refine r_iload_n cd_M_throwIn_21 rfl ?_
      refine r_iload_n cd_M_throwIn_22 rfl ?_
      refine r_cv2 cd_M_throwIn_23 rfl ck_M_throwIn_M_isMan rfl (Nat.le_of_ble_eq_true rfl) (sp_M_isMan (by constructor <;> omega) (by constructor <;> omega)) ?_
      refine r_ifne_p cd_M_throwIn_26 (fun c_26 => ?_) (fun c_26 => ?_)
      · skip
        refine r_aload_n cd_M_throwIn_32 rfl ?_
        refine r_getfield cd_M_throwIn_33 hO rfl ?_
        refine r_bipush cd_M_throwIn_36 ?_
        refine r_iload_n cd_M_throwIn_38 rfl ?_
        refine r_iastore (N := 21) cd_M_throwIn_39 hN (wlen hw) (by omega) (by omega) (by omega) ?_
        refine r_aload_n cd_M_throwIn_40 rfl ?_
        refine r_getfield cd_M_throwIn_41 (gs_ne (by omega) hO) rfl ?_
        refine r_bipush cd_M_throwIn_44 ?_
        refine r_iload_n cd_M_throwIn_46 rfl ?_
        refine r_iastore (N := 21) cd_M_throwIn_47 (gs_eq hN) (lset (wlen hw)) (by omega) (by omega) (by omega) ?_
        refine r_iconst cd_M_throwIn_48 ?_
        exact r_iret cd_M_throwIn_49 rt_M_throwIn (by rw [w0, if_neg c_4, if_neg (by omega), if_pos ⟨c_26.1, c_26.2.2.2⟩]) (by (rw [if_neg c_4, if_neg (by omega), if_pos ⟨c_26.1, c_26.2.2.2⟩] at w0; rw [act_y w0, List.set_set]; rfl))
      · skip
        refine r_bipush cd_M_throwIn_29 ?_
        exact r_iret cd_M_throwIn_31 rt_M_throwIn (by rw [w0, if_neg c_4, if_neg (by omega), if_neg (by omega)]) (by (rw [if_neg c_4, if_neg (by omega), if_neg (by omega)] at w0; rw [act_n (by omega)]; exact (set_same hN).symm))
    · skip
      refine r_iconst cd_M_throwIn_19 ?_
      exact r_iret cd_M_throwIn_20 rt_M_throwIn (by rw [w0, if_neg c_4, if_pos (by omega)]) (by (rw [if_neg c_4, if_pos (by omega)] at w0; rw [act_n (by omega)]; exact (set_same hN).symm))
  · skip
    refine r_iconst cd_M_throwIn_7 ?_
    exact r_iret cd_M_throwIn_8 rt_M_throwIn (by rw [w0, if_pos c_4]) (by (rw [if_pos c_4] at w0; rw [act_n (by omega)]; exact (set_same hN).symm))
theorem sp_M_endTenth {r n : Int} (hO : h[40]? = some (mob mn mc sm om ga mr ma ax)) (hN : h[42]? = some (.inr (0, v))) (hw : WF v) : Sp xs m_M_endTenth [vR 40] h (some (vI (why v 8 r n))) (h.set 42 (.inr (0, act v 8 r n))) := by
  have hbl := hw.2.2.2.2.2.2.1
  have w0 := why_8 (w := v) (r := r) (n := n)
  refine en_M_endTenth ?_
  refine r_aload_n cd_M_endTenth_0 rfl ?_
  refine r_vv0 cd_M_endTenth_1 rfl ck_M_endTenth_M_isOver (Nat.le_of_ble_eq_true rfl) hO rfl (sp_M_isOver hO hN hw) ?_
  refine r_ifeq_p cd_M_endTenth_4 (fun c_4 => ?_) (fun c_4 => ?_)
  · skip
    refine r_aload_n cd_M_endTenth_9 rfl ?_
    refine r_getfield cd_M_endTenth_10 hO rfl ?_
    refine r_bipush cd_M_endTenth_13 ?_
    refine r_iaload (N := 21) cd_M_endTenth_15 hN (wlen hw) (by omega) (by omega) (by omega) ?_
    refine r_sipush cd_M_endTenth_16 ?_
    refine r_icmp_ne cd_M_endTenth_19 ⟨by omega, by omega⟩ ⟨by decide, by decide⟩ (fun c_19 => ?_) (fun c_19 => ?_)
    · skip
      refine r_aload_n cd_M_endTenth_25 rfl ?_
      refine r_getfield cd_M_endTenth_26 hO rfl ?_
      refine r_bipush cd_M_endTenth_29 ?_
      refine r_dup2 cd_M_endTenth_31 rfl rfl ?_
      refine r_iaload (N := 21) cd_M_endTenth_32 hN (wlen hw) (by omega) (by omega) (by omega) ?_
      refine r_iconst cd_M_endTenth_33 ?_
      refine r_iadd cd_M_endTenth_34 ?_
      refine r_iastore (N := 21) cd_M_endTenth_35 hN (wlen hw) (by omega) (by omega) (by omega) ?_
      refine r_iconst cd_M_endTenth_36 ?_
      exact r_iret cd_M_endTenth_37 rt_M_endTenth (by rw [w0, if_neg c_4, if_neg (by omega)]) (by (rw [if_neg c_4, if_neg (by omega)] at w0; rw [act_y w0]; rfl))
    · skip
      refine r_bipush cd_M_endTenth_22 ?_
      exact r_iret cd_M_endTenth_24 rt_M_endTenth (by rw [w0, if_neg c_4, if_pos (by omega)]) (by (rw [if_neg c_4, if_pos (by omega)] at w0; rw [act_n (by omega)]; exact (set_same hN).symm))
  · skip
    refine r_iconst cd_M_endTenth_7 ?_
    exact r_iret cd_M_endTenth_8 rt_M_endTenth (by rw [w0, if_pos c_4]) (by (rw [if_pos c_4] at w0; rw [act_n (by omega)]; exact (set_same hN).symm))
end C66
