-- the reference: evenings
section C69
variable {xs : List Int} {h : MH} {v b dv : List Int} {mn mc sm om ga mr ma ax : Int}
theorem hset2 {X Y Z : HC} : ((h.set 42 X).set 40 Y).set 42 Z = (h.set 42 Z).set 40 Y := by rw [hset, List.set_set]
theorem lp_M_go : ∀ (f : Nat) (pl k r n ac fg mr sm om : Int) (v : List Int) (h : MH) (x1 : MV), h[40]? = some (mob mn mc sm om fg mr ac pl) → h[42]? = some (.inr (0, v)) → h[44]? = some (.inr (0, dv)) → WF v → PdOK dv mc pl → pl ≤ mc + 3 → mc - pl ≤ f → 0 ≤ ac → ac + f ≤ 200 → (fg = -6 ∨ 0 ≤ fg) → fg ≤ 200 → at_ (faA dv mc f pl k r n) 0 = -6 → ∃ sm' om' mr' ax', (at_ (evA dv mc f pl k r n v ac fg).2.1 1 ≠ -6 → mr' = at_ (evA dv mc f pl k r n v ac fg).2.1 2) ∧ Rn xs m_M_goEvenings 14 [vR 40, x1] [] h (some (vI (at_ (evA dv mc f pl k r n v ac fg).2.1 1))) ((h.set 42 (.inr (0, (evA dv mc f pl k r n v ac fg).1))).set 40 (mob mn mc sm' om' (at_ (evA dv mc f pl k r n v ac fg).2.1 3) mr' (at_ (evA dv mc f pl k r n v ac fg).2.1 0) ax')) := by
  intro f
  induction f with
  | zero =>
    intro pl k r n ac fg mr sm om v h x1 hO hN hD hw hp hpm hm a0 a1 g0 g1 hf
    obtain ⟨p1, p2, p3, p4, p5⟩ := id hp
    refine ⟨sm, om, mr, pl, fun z => absurd rfl z, ?_⟩
    unfold evA
    refine r_aload_n cd_M_goEvenings_14 rfl ?_
    refine r_getfield cd_M_goEvenings_15 hO rfl ?_
    refine r_aload_n cd_M_goEvenings_18 rfl ?_
    refine r_getfield cd_M_goEvenings_19 hO rfl ?_
    refine r_icmp_ge cd_M_goEvenings_22 ⟨by omega, by omega⟩ ⟨by omega, by omega⟩ (fun c_22 => ?_) (fun c_22 => ?_)
    · skip
      refine r_bipush cd_M_goEvenings_115 ?_
      exact r_iret cd_M_goEvenings_117 rt_M_goEvenings (by rfl) (by (show h = (h.set 42 (.inr (0, v))).set 40 (mob mn mc sm om fg mr ac pl); rw [set_same hN]; exact (set_same hO).symm))
    · skip
      omega
  | succ f ih =>
    intro pl k r n ac fg mr sm om v h x1 hO hN hD hw hp hpm hm a0 a1 g0 g1 hf
    obtain ⟨p1, p2, p3, p4, p5⟩ := id hp
    have hl : ((dv.length : Nat) : Int) = 60 := by rw [p1]; rfl
    by_cases z0 : mc ≤ pl
    · have e0 : evA dv mc (f + 1) pl k r n v ac fg = (v, [ac, -6, -6, fg], [pl, k, r, n]) := by unfold evA; rw [if_pos z0]
      rw [e0]
      refine ⟨sm, om, mr, pl, fun z => absurd rfl z, ?_⟩
      refine r_aload_n cd_M_goEvenings_14 rfl ?_
      refine r_getfield cd_M_goEvenings_15 hO rfl ?_
      refine r_aload_n cd_M_goEvenings_18 rfl ?_
      refine r_getfield cd_M_goEvenings_19 hO rfl ?_
      refine r_icmp_ge cd_M_goEvenings_22 ⟨by omega, by omega⟩ ⟨by omega, by omega⟩ (fun c_22 => ?_) (fun c_22 => ?_)
      · skip
        refine r_bipush cd_M_goEvenings_115 ?_
        exact r_iret cd_M_goEvenings_117 rt_M_goEvenings (by rfl) (by (show h = (h.set 42 (.inr (0, v))).set 40 (mob mn mc sm om fg mr ac pl); rw [set_same hN]; exact (set_same hO).symm))
      · skip
        omega
    · obtain ⟨q0, q3⟩ := fa_ok z0 p4 hf
      have q1 := rdq_pl dv mc pl k
      have q2 := rdq_act q0
      obtain ⟨sm', om', hS⟩ := sp_M_nextAct (xs := xs) (k0 := k) hO hN hD hw hl p4 hp (by omega) q0
      have g5 := hw.2.2.2.2.1
      have g6 := hw.2.2.2.2.2.1
      by_cases z1 : why v (at_ (rdq dv mc pl k) 2) (at_ (rdq dv mc pl k) 3) (at_ (rdq dv mc pl k) 4) ≠ 0
      · have e0 : evA dv mc (f + 1) pl k r n v ac fg = (v, [ac, ac, why v (at_ (rdq dv mc pl k) 2) (at_ (rdq dv mc pl k) 3) (at_ (rdq dv mc pl k) 4), fg], [at_ (rdq dv mc pl k) 1, at_ (rdq dv mc pl k) 2, at_ (rdq dv mc pl k) 3, at_ (rdq dv mc pl k) 4]) := by conv => { lhs; unfold evA }; rw [if_neg z0, if_pos z1]
        rw [e0]
        clear e0
        generalize rdq dv mc pl k = K at *
        have hyb := why_bd (w := v) (k := at_ K 2) (r := at_ K 3) (n := at_ K 4)
        rw [act_n z1] at hS
        refine ⟨sm', om', why v (at_ K 2) (at_ K 3) (at_ K 4), at_ K 1, fun _ => rfl, ?_⟩
        have hO1 : ((h.set 42 (.inr (0, v))).set 40 (mob mn mc sm' om' fg mr ac (at_ K 1)))[40]? = some (mob mn mc sm' om' fg mr ac (at_ K 1)) := gs_eq (gs_ne (by omega) hO)
        refine r_aload_n cd_M_goEvenings_14 rfl ?_
        refine r_getfield cd_M_goEvenings_15 (by first | exact hO | exact hO1) rfl ?_
        refine r_aload_n cd_M_goEvenings_18 rfl ?_
        refine r_getfield cd_M_goEvenings_19 (by first | exact hO | exact hO1) rfl ?_
        refine r_icmp_ge cd_M_goEvenings_22 ⟨by omega, by omega⟩ ⟨by omega, by omega⟩ (fun c_22 => ?_) (fun c_22 => ?_)
        · skip
          omega
        · skip
          refine r_aload_n cd_M_goEvenings_25 rfl ?_
          refine r_getfield cd_M_goEvenings_26 (by first | exact hO | exact hO1) rfl ?_
          refine r_bipush cd_M_goEvenings_29 ?_
          refine r_iaload (N := 21) cd_M_goEvenings_31 hN (wlen hw) (by omega) (by omega) (by omega) ?_
          refine r_aload_n cd_M_goEvenings_32 rfl ?_
          refine r_getfield cd_M_goEvenings_33 (by first | exact hO | exact hO1) rfl ?_
          refine r_bipush cd_M_goEvenings_36 ?_
          refine r_iaload (N := 21) cd_M_goEvenings_38 hN (wlen hw) (by omega) (by omega) (by omega) ?_
          refine r_iadd cd_M_goEvenings_39 ?_
          refine r_istoren2_1 cd_M_goEvenings_40 rfl ?_
          refine r_aload_n cd_M_goEvenings_41 rfl ?_
          refine r_aload_n cd_M_goEvenings_42 rfl ?_
          refine r_vv0 cd_M_goEvenings_43 rfl ck_M_goEvenings_M_nextAct (Nat.le_of_ble_eq_true rfl) (by first | exact hO | exact hO1) rfl hS ?_
          skip
          refine r_putfield cd_M_goEvenings_46 (by first | exact hO | exact hO1) (Nat.le_of_ble_eq_true rfl) rfl ?_
          refine r_aload_n cd_M_goEvenings_49 rfl ?_
          refine r_getfield cd_M_goEvenings_50 (gs_eq (by first | exact hO | exact hO1)) rfl ?_
          refine r_if_le cd_M_goEvenings_53 ⟨by omega, by omega⟩ (fun c_53 => ?_) (fun c_53 => ?_)
          · skip
            omega
          · skip
            refine r_aload_n cd_M_goEvenings_56 rfl ?_
            refine r_getfield cd_M_goEvenings_57 (gs_eq (by first | exact hO | exact hO1)) rfl ?_
            exact r_iret cd_M_goEvenings_60 rt_M_goEvenings (by rfl) (by (rw [List.set_set]; rfl))
      · have hy : why v (at_ (rdq dv mc pl k) 2) (at_ (rdq dv mc pl k) 3) (at_ (rdq dv mc pl k) 4) = 0 := by omega
        have e0 := (by conv => { lhs; unfold evA }; rw [if_neg z0, if_neg z1] : evA dv mc (f + 1) pl k r n v ac fg = evA dv mc f (at_ (rdq dv mc pl k) 1) (at_ (rdq dv mc pl k) 2) (at_ (rdq dv mc pl k) 3) (at_ (rdq dv mc pl k) 4) (prf v (at_ (rdq dv mc pl k) 2) (at_ (rdq dv mc pl k) 3) (at_ (rdq dv mc pl k) 4)) (ac + 1) (if fg = -6 ∧ at_ v 18 + at_ v 19 < at_ (prf v (at_ (rdq dv mc pl k) 2) (at_ (rdq dv mc pl k) 3) (at_ (rdq dv mc pl k) 4)) 18 + at_ (prf v (at_ (rdq dv mc pl k) 2) (at_ (rdq dv mc pl k) 3) (at_ (rdq dv mc pl k) 4)) 19 then ac else fg))
        rw [e0]
        clear e0
        generalize rdq dv mc pl k = K at *
        rw [act_y hy, hy] at hS
        have hw2 := wf_prf hw q2 hy
        generalize prf v (at_ K 2) (at_ K 3) (at_ K 4) = w2 at *
        have g7 := hw2.2.2.2.2.1
        have g8 := hw2.2.2.2.2.2.1
        generalize hG : (if fg = -6 ∧ at_ v 18 + at_ v 19 < at_ w2 18 + at_ w2 19 then ac else fg) = fg'
        have hg' : (fg' = -6 ∨ 0 ≤ fg') ∧ fg' ≤ 200 := by rw [← hG]; split <;> omega
        have hp2 : PdOK dv mc (at_ K 1) := ⟨p1, p2, p3, by omega, p5⟩
        have hO1 : ((h.set 42 (.inr (0, w2))).set 40 (mob mn mc sm' om' fg mr ac (at_ K 1)))[40]? = some (mob mn mc sm' om' fg mr ac (at_ K 1)) := gs_eq (gs_ne (by omega) hO)
        have hN1 : ((h.set 42 (.inr (0, w2))).set 40 (mob mn mc sm' om' fg mr ac (at_ K 1)))[42]? = some (.inr (0, w2)) := gs_ne (by omega) (gs_eq hN)
        obtain ⟨sm2, om2, mr2, ax2, hc, e9⟩ := ih (at_ K 1) (at_ K 2) (at_ K 3) (at_ K 4) (ac + 1) fg' 0 sm' om' w2 ((h.set 42 (.inr (0, w2))).set 40 (mob mn mc sm' om' fg' 0 (ac + 1) (at_ K 1))) (vI (at_ v 18 + at_ v 19)) (gs_eq (gs_ne (by omega) hO)) (gs_ne (by omega) (gs_eq hN)) (gs_ne (by omega) (gs_ne (by omega) hD)) hw2 hp2 (by omega) (by omega) (by omega) (by omega) hg'.1 hg'.2 q3
        rw [hset2, List.set_set] at e9
        refine ⟨sm2, om2, mr2, ax2, hc, ?_⟩
        have t99 : ∀ x, x = fg' → Rn xs m_M_goEvenings 99 [vR 40, vI (at_ v 18 + at_ v 19)] [vI x, vR 40] ((h.set 42 (.inr (0, w2))).set 40 (mob mn mc sm' om' fg 0 ac (at_ K 1))) (some (vI (at_ (evA dv mc f (at_ K 1) (at_ K 2) (at_ K 3) (at_ K 4) w2 (ac + 1) fg').2.1 1))) ((h.set 42 (.inr (0, (evA dv mc f (at_ K 1) (at_ K 2) (at_ K 3) (at_ K 4) w2 (ac + 1) fg').1))).set 40 (mob mn mc sm2 om2 (at_ (evA dv mc f (at_ K 1) (at_ K 2) (at_ K 3) (at_ K 4) w2 (ac + 1) fg').2.1 3) mr2 (at_ (evA dv mc f (at_ K 1) (at_ K 2) (at_ K 3) (at_ K 4) w2 (ac + 1) fg').2.1 0) ax2)) := by
          intro x hx
          subst hx
          have hO2 : ((h.set 42 (.inr (0, w2))).set 40 (mob mn mc sm' om' fg 0 ac (at_ K 1)))[40]? = some (mob mn mc sm' om' fg 0 ac (at_ K 1)) := gs_eq (gs_ne (by omega) hO)
          refine r_putfield cd_M_goEvenings_99 hO2 (Nat.le_of_ble_eq_true rfl) rfl ?_
          refine r_aload_n cd_M_goEvenings_102 rfl ?_
          refine r_dup cd_M_goEvenings_103 rfl ?_
          refine r_getfield cd_M_goEvenings_104 (gs_eq hO2) rfl ?_
          refine r_iconst cd_M_goEvenings_107 ?_
          refine r_iadd cd_M_goEvenings_108 ?_
          refine r_putfield cd_M_goEvenings_109 (gs_eq hO2) (Nat.le_of_ble_eq_true rfl) rfl ?_
          refine r_goto cd_M_goEvenings_112 ?_
          (simp only [List.set_set]; exact e9)
        have hlw : ((w2.length : Nat) : Int) = 21 := by rw [hw2.1]; rfl
        refine r_aload_n cd_M_goEvenings_14 rfl ?_
        refine r_getfield cd_M_goEvenings_15 (by first | exact hO | exact hO1) rfl ?_
        refine r_aload_n cd_M_goEvenings_18 rfl ?_
        refine r_getfield cd_M_goEvenings_19 (by first | exact hO | exact hO1) rfl ?_
        refine r_icmp_ge cd_M_goEvenings_22 ⟨by omega, by omega⟩ ⟨by omega, by omega⟩ (fun c_22 => ?_) (fun c_22 => ?_)
        · skip
          omega
        · skip
          refine r_aload_n cd_M_goEvenings_25 rfl ?_
          refine r_getfield cd_M_goEvenings_26 (by first | exact hO | exact hO1) rfl ?_
          refine r_bipush cd_M_goEvenings_29 ?_
          refine r_iaload (N := 21) cd_M_goEvenings_31 (by first | exact hN | exact hN1) (by first | exact wlen hw | exact hlw) (by omega) (by omega) (by omega) ?_
          refine r_aload_n cd_M_goEvenings_32 rfl ?_
          refine r_getfield cd_M_goEvenings_33 (by first | exact hO | exact hO1) rfl ?_
          refine r_bipush cd_M_goEvenings_36 ?_
          refine r_iaload (N := 21) cd_M_goEvenings_38 (by first | exact hN | exact hN1) (by first | exact wlen hw | exact hlw) (by omega) (by omega) (by omega) ?_
          refine r_iadd cd_M_goEvenings_39 ?_
          refine r_istoren2_1 cd_M_goEvenings_40 rfl ?_
          refine r_aload_n cd_M_goEvenings_41 rfl ?_
          refine r_aload_n cd_M_goEvenings_42 rfl ?_
          refine r_vv0 cd_M_goEvenings_43 rfl ck_M_goEvenings_M_nextAct (Nat.le_of_ble_eq_true rfl) (by first | exact hO | exact hO1) rfl hS ?_
          skip
          refine r_putfield cd_M_goEvenings_46 (by first | exact hO | exact hO1) (Nat.le_of_ble_eq_true rfl) rfl ?_
          refine r_aload_n cd_M_goEvenings_49 rfl ?_
          refine r_getfield cd_M_goEvenings_50 (gs_eq (by first | exact hO | exact hO1)) rfl ?_
          refine r_if_le cd_M_goEvenings_53 ⟨by omega, by omega⟩ (fun c_53 => ?_) (fun c_53 => ?_)
          · skip
            refine r_aload_n cd_M_goEvenings_61 rfl ?_
            refine r_aload_n cd_M_goEvenings_62 rfl ?_
            refine r_getfield cd_M_goEvenings_63 (gs_eq (by first | exact hO | exact hO1)) rfl ?_
            refine r_if_ge cd_M_goEvenings_66 ⟨by omega, by omega⟩ (fun c_66 => ?_) (fun c_66 => ?_)
            · skip
              refine r_aload_n cd_M_goEvenings_95 rfl ?_
              refine r_getfield cd_M_goEvenings_96 (gs_eq (by first | exact hO | exact hO1)) rfl ?_
              (rw [List.set_set]; exact t99 _ (by rw [← hG]; first | (rw [if_pos (by omega)]; done) | (rw [if_neg (by omega)]; done)))
            · skip
              refine r_aload_n cd_M_goEvenings_69 rfl ?_
              refine r_getfield cd_M_goEvenings_70 (gs_eq (by first | exact hO | exact hO1)) rfl ?_
              refine r_bipush cd_M_goEvenings_73 ?_
              refine r_iaload (N := 21) cd_M_goEvenings_75 (gs_ne (by omega) (by first | exact hN | exact hN1)) (by first | exact wlen hw | exact hlw) (by omega) (by omega) (by omega) ?_
              refine r_aload_n cd_M_goEvenings_76 rfl ?_
              refine r_getfield cd_M_goEvenings_77 (gs_eq (by first | exact hO | exact hO1)) rfl ?_
              refine r_bipush cd_M_goEvenings_80 ?_
              refine r_iaload (N := 21) cd_M_goEvenings_82 (gs_ne (by omega) (by first | exact hN | exact hN1)) (by first | exact wlen hw | exact hlw) (by omega) (by omega) (by omega) ?_
              refine r_iadd cd_M_goEvenings_83 ?_
              refine r_iload_n cd_M_goEvenings_84 rfl ?_
              refine r_icmp_le cd_M_goEvenings_85 ⟨by omega, by omega⟩ ⟨by omega, by omega⟩ (fun c_85 => ?_) (fun c_85 => ?_)
              · skip
                refine r_aload_n cd_M_goEvenings_95 rfl ?_
                refine r_getfield cd_M_goEvenings_96 (gs_eq (by first | exact hO | exact hO1)) rfl ?_
                (rw [List.set_set]; exact t99 _ (by rw [← hG]; first | (rw [if_pos (by omega)]; done) | (rw [if_neg (by omega)]; done)))
              · skip
                refine r_aload_n cd_M_goEvenings_88 rfl ?_
                refine r_getfield cd_M_goEvenings_89 (gs_eq (by first | exact hO | exact hO1)) rfl ?_
                refine r_goto cd_M_goEvenings_92 ?_
                (rw [List.set_set]; exact t99 _ (by rw [← hG]; first | (rw [if_pos (by omega)]; done) | (rw [if_neg (by omega)]; done)))
          · skip
            refine r_aload_n cd_M_goEvenings_56 rfl ?_
            exact absurd c_53 (by decide)
end C69
