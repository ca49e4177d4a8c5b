-- an evening played: now at 1, the pad at 4, the evening at 6 with its table at 7
section C40
variable {xs : List Int} {h : MH} {t : Nat} {w w0 ss : List Int} {cn pl k r n : Int}
theorem tab_sne {p : Nat} {c : HC} (hT : TabAt h t w) (h0 : p ≠ t) (h1 : p ≠ t + 1) (h2 : p ≠ t + 2) : TabAt (h.set p c) t w := ⟨gs_ne h0 hT.1, gs_ne h1 hT.2.1, gs_ne h2 hT.2.2⟩
theorem tab_tne {u : Nat} {v : List Int} (hT : TabAt h t w) (hn : t + 3 ≤ u ∨ u + 3 ≤ t) : TabAt (tset h u v) t w := ⟨(tset_ne (by omega) (by omega) (by omega)).trans hT.1, (tset_ne (by omega) (by omega) (by omega)).trans hT.2.1, (tset_ne (by omega) (by omega) (by omega)).trans hT.2.2⟩
theorem pad_tne {u : Nat} {v : List Int} (hP : PadAt h t ss cn pl k r n) (h0 : t + 1 < u ∨ u + 2 < t) : PadAt (tset h u v) t ss cn pl k r n := ⟨(tset_ne (by omega) (by omega) (by omega)).trans hP.1, (tset_ne (by omega) (by omega) (by omega)).trans hP.2.1, hP.2.2⟩
theorem pad_sne {p : Nat} {c : HC} (hP : PadAt h t ss cn pl k r n) (h0 : p ≠ t) (h1 : p ≠ t + 1) : PadAt (h.set p c) t ss cn pl k r n := ⟨gs_ne h0 hP.1, gs_ne h1 hP.2.1, hP.2.2⟩
def eobj (ac st re fg : Int) : HC := .inl (1, [vR 7, vI ac, vI st, vI re, vI fg])
def evA (ss : List Int) (cn : Int) : Nat → Int → Int → Int → Int → List Int → Int → Int → List Int × List Int × List Int
  | 0, pl, k, r, n, w, ac, fg => (w, [ac, -6, -6, fg], [pl, k, r, n])
  | f + 1, pl, k, r, n, w, ac, fg =>
    if cn ≤ pl then (w, [ac, -6, -6, fg], [pl, k, r, n])
    else if why w (at_ (rdq ss cn pl k) 2) (at_ (rdq ss cn pl k) 3) (at_ (rdq ss cn pl k) 4) ≠ 0 then (w, [ac, ac, why w (at_ (rdq ss cn pl k) 2) (at_ (rdq ss cn pl k) 3) (at_ (rdq ss cn pl k) 4), fg], [at_ (rdq ss cn pl k) 1, at_ (rdq ss cn pl k) 2, at_ (rdq ss cn pl k) 3, at_ (rdq ss cn pl k) 4])
    else evA ss cn f (at_ (rdq ss cn pl k) 1) (at_ (rdq ss cn pl k) 2) (at_ (rdq ss cn pl k) 3) (at_ (rdq ss cn pl k) 4) (prf w (at_ (rdq ss cn pl k) 2) (at_ (rdq ss cn pl k) 3) (at_ (rdq ss cn pl k) 4)) (ac + 1) (if fg = -6 ∧ at_ w 18 + at_ w 19 < at_ (prf w (at_ (rdq ss cn pl k) 2) (at_ (rdq ss cn pl k) 3) (at_ (rdq ss cn pl k) 4)) 18 + at_ (prf w (at_ (rdq ss cn pl k) 2) (at_ (rdq ss cn pl k) 3) (at_ (rdq ss cn pl k) 4)) 19 then ac else fg)
def evh (h : MH) (cn : Int) (X : List Int × List Int × List Int) : MH := tset ((h.set 6 (eobj (at_ X.2.1 0) (at_ X.2.1 1) (at_ X.2.1 2) (at_ X.2.1 3))).set 4 (pobj 4 cn (at_ X.2.2 0) (at_ X.2.2 1) (at_ X.2.2 2) (at_ X.2.2 3))) 7 X.1
theorem evh_eq {P E : HC} {w1 : List Int} {X : List Int × List Int × List Int} : evh ((tset (h.set 4 P) 7 w1).set 6 E) cn X = evh h cn X := by
  unfold evh tset
  apply List.ext_getElem?
  intro j
  simp only [List.getElem?_set, List.length_set]
  (repeat' split) <;> first | rfl | omega
theorem evh_0 {ac st re fg : Int} (hE : h[6]? = some (eobj ac st re fg)) (hP : PadAt h 4 ss cn pl k r n) (hT : TabAt h 7 w) : evh h cn (w, [ac, st, re, fg], [pl, k, r, n]) = h := by
  show tset ((h.set 6 (eobj ac st re fg)).set 4 (pobj 4 cn pl k r n)) 7 w = h
  rw [set_same hE, set_same hP.1, tset_same hT]
theorem fa_ok {f : Nat} (h0 : ¬ cn ≤ pl) (hp : 0 ≤ pl) (hf : at_ (faA ss cn (f + 1) pl k r n) 0 = -6) : at_ (rdq ss cn pl k) 0 ≠ 0 ∧ at_ (faA ss cn f (at_ (rdq ss cn pl k) 1) (at_ (rdq ss cn pl k) 2) (at_ (rdq ss cn pl k) 3) (at_ (rdq ss cn pl k) 4)) 0 = -6 := by
  have q := rdq_pl ss cn pl k
  unfold faA at hf
  rw [if_neg h0] at hf
  by_cases z : at_ (rdq ss cn pl k) 0 = 0
  · rw [if_pos z, at0] at hf
    omega
  · rw [if_neg z] at hf
    exact ⟨z, hf⟩
theorem lp_play : ∀ (f : Nat) (i pl k r n ac fg : Int) (w : List Int) (h : MH) (x4 x5 : MV), 0 ≤ i → i + f = 60 → PadAt h 4 ss cn pl k r n → h[6]? = some (eobj ac (-6) (-6) fg) → TabAt h 7 w → WF w → pl ≤ 3 * i → 0 ≤ ac → ac ≤ i → (fg = -6 ∨ 0 ≤ fg) → fg ≤ 60 → at_ (faA ss cn f pl k r n) 0 = -6 → Rn xs m_Evening_play 46 [vR 6, vR 1, vR 4, vI i, x4, x5] [] h none (evh h cn (evA ss cn f pl k r n w ac fg)) := by
  intro f
  induction f with
  | zero =>
    intro i pl k r n ac fg w h x4 x5 i0 i1 hP hE hT hw hl ac0 ac1 fg0 fg1 hf
    refine r_iload_n cd_Evening_play_46 rfl ?_
    refine r_bipush cd_Evening_play_47 ?_
    refine r_icmp_ge cd_Evening_play_49 ⟨by omega, by omega⟩ ⟨by decide, by decide⟩ (fun c_49 => ?_) (fun c_49 => ?_)
    · skip
      exact r_vret cd_Evening_play_181 rt_Evening_play (by exact (evh_0 hE hP hT).symm)
    · skip
      omega
  | succ f ih =>
    intro i pl k r n ac fg w h x4 x5 i0 i1 hP hE hT hw hl ac0 ac1 fg0 fg1 hf
    obtain ⟨p1, p2, p3, p4, p5, p6, p7⟩ := id hP
    by_cases z0 : cn ≤ pl
    · skip
      have e0 : evA ss cn (f + 1) pl k r n w ac fg = (w, [ac, -6, -6, fg], [pl, k, r, n]) := by unfold evA; rw [if_pos z0]
      rw [e0]
      refine r_iload_n cd_Evening_play_46 rfl ?_
      refine r_bipush cd_Evening_play_47 ?_
      refine r_icmp_ge cd_Evening_play_49 ⟨by omega, by omega⟩ ⟨by decide, by decide⟩ (fun c_49 => ?_) (fun c_49 => ?_)
      · skip
        exact r_vret cd_Evening_play_181 rt_Evening_play (by exact (evh_0 hE hP hT).symm)
      · skip
        refine r_aload_n cd_Evening_play_52 rfl ?_
        refine r_vv0 cd_Evening_play_53 rfl ck_Evening_play_Pad_isReadOut (Nat.le_of_ble_eq_true rfl) hP.1 rfl (sp_Pad_isReadOut hP (by omega)) ?_
        refine r_ifne_p cd_Evening_play_56 (fun c_56 => ?_) (fun c_56 => ?_)
        · skip
          exact r_vret cd_Evening_play_181 rt_Evening_play (by exact (evh_0 hE hP hT).symm)
        · skip
          exact absurd z0 c_56
    · skip
      obtain ⟨q0, q3⟩ := fa_ok z0 p6 hf
      have q1 := rdq_pl ss cn pl k
      have q2 := rdq_act q0
      have hRd := sp_readQ (xs := xs) hP (by omega)
      have q4 : at_ (rdq ss cn pl k) 0 = 1 := by have := rdq_ok ss cn pl k; omega
      rw [q4] at hRd
      by_cases z1 : why w (at_ (rdq ss cn pl k) 2) (at_ (rdq ss cn pl k) 3) (at_ (rdq ss cn pl k) 4) ≠ 0
      · skip
        have e0 : evA ss cn (f + 1) pl k r n w ac fg = (w, [ac, ac, why w (at_ (rdq ss cn pl k) 2) (at_ (rdq ss cn pl k) 3) (at_ (rdq ss cn pl k) 4), fg], [at_ (rdq ss cn pl k) 1, at_ (rdq ss cn pl k) 2, at_ (rdq ss cn pl k) 3, at_ (rdq ss cn pl k) 4]) := by conv => { lhs; unfold evA }; rw [if_neg z0, if_pos z1]
        rw [e0]
        clear e0
        generalize rdq ss cn pl k = R at hRd q0 q1 q2 q3 q4 z1 ⊢
        have hyb := why_bd (w := w) (k := at_ R 2) (r := at_ R 3) (n := at_ R 4)
        have hP2 := pad_set (pl' := at_ R 1) (k' := at_ R 2) (r' := at_ R 3) (n' := at_ R 4) hP p4 (Int.le_refl _) (by omega)
        have hT2 := tab_sne (p := 4) (c := pobj 4 cn (at_ R 1) (at_ R 2) (at_ R 3) (at_ R 4)) hT (by omega) (by omega) (by omega)
        refine r_iload_n cd_Evening_play_46 rfl ?_
        refine r_bipush cd_Evening_play_47 ?_
        refine r_icmp_ge cd_Evening_play_49 ⟨by omega, by omega⟩ ⟨by decide, by decide⟩ (fun c_49 => ?_) (fun c_49 => ?_)
        · skip
          first | exact absurd c_56 z0 | omega
        · skip
          refine r_aload_n cd_Evening_play_52 rfl ?_
          refine r_vv0 cd_Evening_play_53 rfl ck_Evening_play_Pad_isReadOut (Nat.le_of_ble_eq_true rfl) (by first | exact hP2.1 | exact hP.1) rfl (sp_Pad_isReadOut hP (by omega)) ?_
          refine r_ifne_p cd_Evening_play_56 (fun c_56 => ?_) (fun c_56 => ?_)
          · skip
            first | exact absurd c_56 z0 | omega
          · skip
            refine r_aload_n cd_Evening_play_59 rfl ?_
            refine r_vv0 cd_Evening_play_60 rfl ck_Evening_play_Pad_readAct (Nat.le_of_ble_eq_true rfl) (by first | exact hP2.1 | exact hP.1) rfl hRd ?_
            refine r_if_ne cd_Evening_play_63 ⟨by decide, by decide⟩ (fun _ => ?_) (fun c_63 => absurd c_63 (by decide))
            refine r_aload_n cd_Evening_play_67 rfl ?_
            refine r_getfield cd_Evening_play_68 (gs_ne (by omega) hE) rfl ?_
            refine r_aload_n cd_Evening_play_71 rfl ?_
            refine r_vv0 cd_Evening_play_72 rfl ck_Evening_play_Pad_kind (Nat.le_of_ble_eq_true rfl) (by first | exact hP2.1 | exact hP.1) rfl (sp_Pad_kind hP2) ?_
            refine r_aload_n cd_Evening_play_75 rfl ?_
            refine r_vv0 cd_Evening_play_76 rfl ck_Evening_play_Pad_rod (Nat.le_of_ble_eq_true rfl) (by first | exact hP2.1 | exact hP.1) rfl (sp_Pad_rod hP2) ?_
            refine r_aload_n cd_Evening_play_79 rfl ?_
            refine r_vv0 cd_Evening_play_80 rfl ck_Evening_play_Pad_number (Nat.le_of_ble_eq_true rfl) (by first | exact hP2.1 | exact hP.1) rfl (sp_Pad_number hP2) ?_
            refine r_vv3 cd_Evening_play_83 rfl ck_Evening_play_Table_whyNot (Nat.le_of_ble_eq_true rfl) hT2.1 rfl (sp_whyNot hT2 hw q2) ?_
            refine r_istore6_4 cd_Evening_play_86 rfl ?_
            refine r_iload cd_Evening_play_88 rfl ?_
            refine r_if_eq cd_Evening_play_90 ⟨by omega, by omega⟩ (fun c_90 => ?_) (fun c_90 => ?_)
            · skip
              exact absurd c_90 z1
            · skip
              refine r_aload_n cd_Evening_play_93 rfl ?_
              refine r_aload_n cd_Evening_play_94 rfl ?_
              refine r_getfield cd_Evening_play_95 (gs_ne (by omega) hE) rfl ?_
              refine r_putfield cd_Evening_play_98 (gs_ne (by omega) hE) (Nat.le_of_ble_eq_true rfl) rfl ?_
              refine r_aload_n cd_Evening_play_101 rfl ?_
              refine r_iload cd_Evening_play_102 rfl ?_
              refine r_putfield cd_Evening_play_104 (gs_eq (gs_ne (by omega) hE)) (Nat.le_of_ble_eq_true rfl) rfl ?_
              exact r_vret cd_Evening_play_107 rt_Evening_play (by (rw [List.set_set]; unfold evh; rw [tset_same (tab_sne (tab_sne hT (by omega) (by omega) (by omega)) (by omega) (by omega) (by omega))]; exact set_comm (by omega)))
      · skip
        have hy : why w (at_ (rdq ss cn pl k) 2) (at_ (rdq ss cn pl k) 3) (at_ (rdq ss cn pl k) 4) = 0 := by omega
        have e0 := (by conv => { lhs; unfold evA }; rw [if_neg z0, if_neg z1] : evA ss cn (f + 1) pl k r n w ac fg = evA ss cn f (at_ (rdq ss cn pl k) 1) (at_ (rdq ss cn pl k) 2) (at_ (rdq ss cn pl k) 3) (at_ (rdq ss cn pl k) 4) (prf w (at_ (rdq ss cn pl k) 2) (at_ (rdq ss cn pl k) 3) (at_ (rdq ss cn pl k) 4)) (ac + 1) (if fg = -6 ∧ at_ w 18 + at_ w 19 < at_ (prf w (at_ (rdq ss cn pl k) 2) (at_ (rdq ss cn pl k) 3) (at_ (rdq ss cn pl k) 4)) 18 + at_ (prf w (at_ (rdq ss cn pl k) 2) (at_ (rdq ss cn pl k) 3) (at_ (rdq ss cn pl k) 4)) 19 then ac else fg))
        rw [e0]
        clear e0
        generalize rdq ss cn pl k = R at hRd q0 q1 q2 q3 q4 z1 hy ⊢
        have hw2 := wf_prf hw q2 hy
        have hP2 := pad_set (pl' := at_ R 1) (k' := at_ R 2) (r' := at_ R 3) (n' := at_ R 4) hP p4 (Int.le_refl _) (by omega)
        have hT2 := tab_sne (p := 4) (c := pobj 4 cn (at_ R 1) (at_ R 2) (at_ R 3) (at_ R 4)) hT (by omega) (by omega) (by omega)
        have hT3 := tab_tset (w' := prf w (at_ R 2) (at_ R 3) (at_ R 4)) hT2
        have hP3 := pad_tne (u := 7) (v := prf w (at_ R 2) (at_ R 3) (at_ R 4)) hP2 (Or.inl (by omega))
        have hE3 : (tset (h.set 4 (pobj 4 cn (at_ R 1) (at_ R 2) (at_ R 3) (at_ R 4))) 7 (prf w (at_ R 2) (at_ R 3) (at_ R 4)))[6]? = some (eobj ac (-6) (-6) fg) := (tset_ne (by omega) (by omega) (by omega)).trans (gs_ne (by omega) hE)
        have g1 := hw.2.2.2.2.1
        have g2 := hw.2.2.2.2.2.1
        have g3 := hw2.2.2.2.2.1
        have g4 := hw2.2.2.2.2.2.1
        have fin : ∀ (fg' : Int) (x y : MV), (if fg = -6 ∧ at_ w 18 + at_ w 19 < at_ (prf w (at_ R 2) (at_ R 3) (at_ R 4)) 18 + at_ (prf w (at_ R 2) (at_ R 3) (at_ R 4)) 19 then ac else fg) = fg' → (fg' = -6 ∨ 0 ≤ fg') → fg' ≤ 60 → Rn xs m_Evening_play 46 [vR 6, vR 1, vR 4, vI (i + 1), x, y] [] ((tset (h.set 4 (pobj 4 cn (at_ R 1) (at_ R 2) (at_ R 3) (at_ R 4))) 7 (prf w (at_ R 2) (at_ R 3) (at_ R 4))).set 6 (eobj (ac + 1) (-6) (-6) fg')) none (evh h cn (evA ss cn f (at_ R 1) (at_ R 2) (at_ R 3) (at_ R 4) (prf w (at_ R 2) (at_ R 3) (at_ R 4)) (ac + 1) (if fg = -6 ∧ at_ w 18 + at_ w 19 < at_ (prf w (at_ R 2) (at_ R 3) (at_ R 4)) 18 + at_ (prf w (at_ R 2) (at_ R 3) (at_ R 4)) 19 then ac else fg))) := by
          intro fg' x y e1 e2 e3
          rw [e1]
          have e9 := ih (i + 1) (at_ R 1) (at_ R 2) (at_ R 3) (at_ R 4) (ac + 1) fg' _ _ x y (by omega) (by omega) (pad_sne (p := 6) (c := eobj (ac + 1) (-6) (-6) fg') hP3 (by omega) (by omega)) (gs_eq hE3) (tab_sne hT3 (by omega) (by omega) (by omega)) hw2 (by omega) (by omega) (by omega) e2 e3 q3
          rw [evh_eq] at e9
          exact e9
        refine r_iload_n cd_Evening_play_46 rfl ?_
        refine r_bipush cd_Evening_play_47 ?_
        refine r_icmp_ge cd_Evening_play_49 ⟨by omega, by omega⟩ ⟨by decide, by decide⟩ (fun c_49 => ?_) (fun c_49 => ?_)
        · skip
          first | exact absurd c_56 z0 | omega
        · skip
          refine r_aload_n cd_Evening_play_52 rfl ?_
          refine r_vv0 cd_Evening_play_53 rfl ck_Evening_play_Pad_isReadOut (Nat.le_of_ble_eq_true rfl) (by first | exact hP2.1 | exact hP.1) rfl (sp_Pad_isReadOut hP (by omega)) ?_
          refine r_ifne_p cd_Evening_play_56 (fun c_56 => ?_) (fun c_56 => ?_)
          · skip
            first | exact absurd c_56 z0 | omega
          · skip
            refine r_aload_n cd_Evening_play_59 rfl ?_
            refine r_vv0 cd_Evening_play_60 rfl ck_Evening_play_Pad_readAct (Nat.le_of_ble_eq_true rfl) (by first | exact hP2.1 | exact hP.1) rfl hRd ?_
            refine r_if_ne cd_Evening_play_63 ⟨by decide, by decide⟩ (fun _ => ?_) (fun c_63 => absurd c_63 (by decide))
            refine r_aload_n cd_Evening_play_67 rfl ?_
            refine r_getfield cd_Evening_play_68 (by first | exact gs_ne (by omega) hE | exact hE3) rfl ?_
            refine r_aload_n cd_Evening_play_71 rfl ?_
            refine r_vv0 cd_Evening_play_72 rfl ck_Evening_play_Pad_kind (Nat.le_of_ble_eq_true rfl) (by first | exact hP2.1 | exact hP.1) rfl (sp_Pad_kind hP2) ?_
            refine r_aload_n cd_Evening_play_75 rfl ?_
            refine r_vv0 cd_Evening_play_76 rfl ck_Evening_play_Pad_rod (Nat.le_of_ble_eq_true rfl) (by first | exact hP2.1 | exact hP.1) rfl (sp_Pad_rod hP2) ?_
            refine r_aload_n cd_Evening_play_79 rfl ?_
            refine r_vv0 cd_Evening_play_80 rfl ck_Evening_play_Pad_number (Nat.le_of_ble_eq_true rfl) (by first | exact hP2.1 | exact hP.1) rfl (sp_Pad_number hP2) ?_
            refine r_vv3 cd_Evening_play_83 rfl ck_Evening_play_Table_whyNot (Nat.le_of_ble_eq_true rfl) (by first | exact hT2.1 | exact hT3.1) rfl (by have e9 := sp_whyNot (xs := xs) hT2 hw q2; rw [hy] at e9; exact e9) ?_
            refine r_istore6_4 cd_Evening_play_86 rfl ?_
            refine r_iload cd_Evening_play_88 rfl ?_
            refine r_if_eq cd_Evening_play_90 ⟨by decide, by decide⟩ (fun _ => ?_) (fun c_90 => absurd c_90 (by decide))
            refine r_aload_n cd_Evening_play_108 rfl ?_
            refine r_getfield cd_Evening_play_109 (by first | exact gs_ne (by omega) hE | exact hE3) rfl ?_
            refine r_vv0 cd_Evening_play_112 rfl ck_Evening_play_Table_scoredInAll (Nat.le_of_ble_eq_true rfl) (by first | exact hT2.1 | exact hT3.1) rfl (sp_scoredInAll hT2) ?_
            refine r_istore6_5 cd_Evening_play_115 rfl ?_
            refine r_aload_n cd_Evening_play_117 rfl ?_
            refine r_getfield cd_Evening_play_118 (by first | exact gs_ne (by omega) hE | exact hE3) rfl ?_
            refine r_aload_n cd_Evening_play_121 rfl ?_
            refine r_vv0 cd_Evening_play_122 rfl ck_Evening_play_Pad_kind (Nat.le_of_ble_eq_true rfl) (by first | exact hP2.1 | exact hP.1) rfl (sp_Pad_kind hP2) ?_
            refine r_aload_n cd_Evening_play_125 rfl ?_
            refine r_vv0 cd_Evening_play_126 rfl ck_Evening_play_Pad_rod (Nat.le_of_ble_eq_true rfl) (by first | exact hP2.1 | exact hP.1) rfl (sp_Pad_rod hP2) ?_
            refine r_aload_n cd_Evening_play_129 rfl ?_
            refine r_vv0 cd_Evening_play_130 rfl ck_Evening_play_Pad_number (Nat.le_of_ble_eq_true rfl) (by first | exact hP2.1 | exact hP.1) rfl (sp_Pad_number hP2) ?_
            refine r_vz3 cd_Evening_play_133 rfl ck_Evening_play_Table_perform (Nat.le_of_ble_eq_true rfl) (by first | exact hT2.1 | exact hT3.1) rfl (sp_perform hT2 hw q2 hy) ?_
            refine r_aload_n cd_Evening_play_136 rfl ?_
            refine r_getfield cd_Evening_play_137 (by first | exact gs_ne (by omega) hE | exact hE3) rfl ?_
            refine r_bipush cd_Evening_play_140 ?_
            refine r_icmp_ne cd_Evening_play_142 ⟨by omega, by omega⟩ ⟨by decide, by decide⟩ (fun c_142 => ?_) (fun c_142 => ?_)
            · skip
              refine r_aload_n cd_Evening_play_165 rfl ?_
              refine r_dup cd_Evening_play_166 rfl ?_
              refine r_getfield cd_Evening_play_167 (by first | exact gs_ne (by omega) hE | exact hE3) rfl ?_
              refine r_iconst cd_Evening_play_170 ?_
              refine r_iadd cd_Evening_play_171 ?_
              refine r_putfield cd_Evening_play_172 (by first | exact gs_ne (by omega) hE | exact hE3) (Nat.le_of_ble_eq_true rfl) rfl ?_
              refine r_iinc6_3 cd_Evening_play_175 rfl ?_
              refine r_goto cd_Evening_play_178 ?_
              first
                | (rw [List.set_set]; exact fin ac _ _ (if_pos ⟨c_142, c_154⟩) (Or.inr ac0) (by omega))
                | exact fin fg _ _ (if_neg (fun z => by omega)) fg0 fg1
            · skip
              refine r_aload_n cd_Evening_play_145 rfl ?_
              refine r_getfield cd_Evening_play_146 (by first | exact gs_ne (by omega) hE | exact hE3) rfl ?_
              refine r_vv0 cd_Evening_play_149 rfl ck_Evening_play_Table_scoredInAll (Nat.le_of_ble_eq_true rfl) (by first | exact hT2.1 | exact hT3.1) rfl (sp_scoredInAll hT3) ?_
              refine r_iload cd_Evening_play_152 rfl ?_
              refine r_icmp_le cd_Evening_play_154 ⟨by omega, by omega⟩ ⟨by omega, by omega⟩ (fun c_154 => ?_) (fun c_154 => ?_)
              · skip
                refine r_aload_n cd_Evening_play_165 rfl ?_
                refine r_dup cd_Evening_play_166 rfl ?_
                refine r_getfield cd_Evening_play_167 (by first | exact gs_ne (by omega) hE | exact hE3) rfl ?_
                refine r_iconst cd_Evening_play_170 ?_
                refine r_iadd cd_Evening_play_171 ?_
                refine r_putfield cd_Evening_play_172 (by first | exact gs_ne (by omega) hE | exact hE3) (Nat.le_of_ble_eq_true rfl) rfl ?_
                refine r_iinc6_3 cd_Evening_play_175 rfl ?_
                refine r_goto cd_Evening_play_178 ?_
                first
                  | (rw [List.set_set]; exact fin ac _ _ (if_pos ⟨c_142, c_154⟩) (Or.inr ac0) (by omega))
                  | exact fin fg _ _ (if_neg (fun z => by omega)) fg0 fg1
              · skip
                refine r_aload_n cd_Evening_play_157 rfl ?_
                refine r_aload_n cd_Evening_play_158 rfl ?_
                refine r_getfield cd_Evening_play_159 (by first | exact gs_ne (by omega) hE | exact hE3) rfl ?_
                refine r_putfield cd_Evening_play_162 (by first | exact gs_ne (by omega) hE | exact hE3) (Nat.le_of_ble_eq_true rfl) rfl ?_
                refine r_aload_n cd_Evening_play_165 rfl ?_
                refine r_dup cd_Evening_play_166 rfl ?_
                refine r_getfield cd_Evening_play_167 (gs_eq (by first | exact gs_ne (by omega) hE | exact hE3)) rfl ?_
                refine r_iconst cd_Evening_play_170 ?_
                refine r_iadd cd_Evening_play_171 ?_
                refine r_putfield cd_Evening_play_172 (gs_eq (by first | exact gs_ne (by omega) hE | exact hE3)) (Nat.le_of_ble_eq_true rfl) rfl ?_
                refine r_iinc6_3 cd_Evening_play_175 rfl ?_
                refine r_goto cd_Evening_play_178 ?_
                first
                  | (rw [List.set_set]; exact fin ac _ _ (if_pos ⟨c_142, c_154⟩) (Or.inr ac0) (by omega))
                  | exact fin fg _ _ (if_neg (fun z => by omega)) fg0 fg1
theorem evh_eq2 {P E : HC} {w1 : List Int} {X : List Int × List Int × List Int} : evh ((tset (h.set 6 E) 7 w1).set 4 P) cn X = evh h cn X := by
  unfold evh tset
  apply List.ext_getElem?
  intro j
  simp only [List.getElem?_set, List.length_set]
  (repeat' split) <;> first | rfl | omega
theorem sp_play {wE : List Int} {ac st re fg : Int} (hT : TabAt h 1 w0) (hw : WF w0) (hP : PadAt h 4 ss cn pl k r n) (hE : h[6]? = some (eobj ac st re fg)) (hT7 : TabAt h 7 wE) (hwE : wE.length = 21) (hf : at_ (faA ss cn 60 0 k r n) 0 = -6) : Sp xs m_Evening_play [vR 6, vR 1, vR 4] h none (evh h cn (evA ss cn 60 0 k r n w0 0 (-6))) := by
  have a1 := tab_sne (p := 6) (c := eobj 0 (-6) (-6) (-6)) hT (by omega) (by omega) (by omega)
  have a7 := tab_sne (p := 6) (c := eobj 0 (-6) (-6) (-6)) hT7 (by omega) (by omega) (by omega)
  have aP := pad_tne (u := 7) (v := w0) (pad_sne (p := 6) (c := eobj 0 (-6) (-6) (-6)) hP (by omega) (by omega)) (Or.inl (by omega))
  have aE : (tset (h.set 6 (eobj 0 (-6) (-6) (-6))) 7 w0)[6]? = some (eobj 0 (-6) (-6) (-6)) := (tset_ne (by omega) (by omega) (by omega)).trans (gs_eq hE)
  have aT := tab_tset (w' := w0) a7
  have e9 := lp_play (xs := xs) 60 0 0 k r n 0 (-6) w0 _ vU vU (by omega) (by omega) (pad_set (pl' := 0) (k' := k) (r' := r) (n' := n) aP aP.2.2.2.1 (Int.le_refl _) (by omega)) (gs_ne (by omega) aE) (tab_sne aT (by omega) (by omega) (by omega)) hw (by omega) (by omega) (by omega) (Or.inl rfl) (by omega) hf
  rw [evh_eq2] at e9
  have tail : Rn xs m_Evening_play 32 [vR 6, vR 1, vR 4, vU, vU, vU] [] (h.set 6 (eobj 0 (-6) (-6) (-6))) none (evh h cn (evA ss cn 60 0 k r n w0 0 (-6))) := by
    refine r_aload_n cd_Evening_play_32 rfl ?_
    refine r_getfield cd_Evening_play_33 (gs_eq hE) rfl ?_
    refine r_aload_n cd_Evening_play_36 rfl ?_
    refine r_vz1 cd_Evening_play_37 rfl ck_Evening_play_Table_copyFrom (Nat.le_of_ble_eq_true rfl) a7.1 rfl (sp_copyFrom (by omega) a7 a1 hwE hw.1) ?_
    refine r_aload_n cd_Evening_play_40 rfl ?_
    refine r_vz0 cd_Evening_play_41 rfl ck_Evening_play_Pad_rewind (Nat.le_of_ble_eq_true rfl) aP.1 rfl (sp_Pad_rewind aP) ?_
    refine r_iconst cd_Evening_play_44 ?_
    refine r_istoren6_3 cd_Evening_play_45 rfl ?_
    exact e9
  refine en_Evening_play ?_
  refine r_aload_n cd_Evening_play_0 rfl ?_
  refine r_iconst cd_Evening_play_1 ?_
  refine r_putfield cd_Evening_play_2 hE (Nat.le_of_ble_eq_true rfl) rfl ?_
  refine r_aload_n cd_Evening_play_5 rfl ?_
  refine r_bipush cd_Evening_play_6 ?_
  refine r_putfield cd_Evening_play_8 (gs_eq hE) (Nat.le_of_ble_eq_true rfl) rfl ?_
  refine r_aload_n cd_Evening_play_11 rfl ?_
  refine r_bipush cd_Evening_play_12 ?_
  refine r_putfield cd_Evening_play_14 (gs_eq (gs_eq hE)) (Nat.le_of_ble_eq_true rfl) rfl ?_
  refine r_aload_n cd_Evening_play_17 rfl ?_
  refine r_bipush cd_Evening_play_18 ?_
  refine r_putfield cd_Evening_play_20 (gs_eq (gs_eq (gs_eq hE))) (Nat.le_of_ble_eq_true rfl) rfl ?_
  refine r_aload_n cd_Evening_play_23 rfl ?_
  refine r_ifnull cd_Evening_play_24 ?_
  refine r_aload_n cd_Evening_play_27 rfl ?_
  refine r_ifnonnull cd_Evening_play_28 ?_
  (rw [List.set_set, List.set_set, List.set_set]; exact tail)
-- what an evening leaves
theorem evA_wf : ∀ (f : Nat) (pl k r n : Int) (w : List Int) (ac fg : Int), 0 ≤ pl → WF w → at_ (faA ss cn f pl k r n) 0 = -6 → 0 ≤ ac → WF (evA ss cn f pl k r n w ac fg).1 ∧ 0 ≤ at_ (evA ss cn f pl k r n w ac fg).2.2 0 ∧ 0 ≤ at_ (evA ss cn f pl k r n w ac fg).2.1 0 ∧ at_ (evA ss cn f pl k r n w ac fg).2.1 0 ≤ ac + f ∧ (at_ (evA ss cn f pl k r n w ac fg).2.1 1 = -6 ∨ 0 ≤ at_ (evA ss cn f pl k r n w ac fg).2.1 1) := by
  intro f
  induction f with
  | zero =>
    intro pl k r n w ac fg h0 hw hf ha
    exact ⟨hw, h0, ha, by show ac ≤ _; omega, Or.inl rfl⟩
  | succ f ih =>
    intro pl k r n w ac fg h0 hw hf ha
    by_cases z0 : cn ≤ pl
    · have e0 : evA ss cn (f + 1) pl k r n w ac fg = (w, [ac, -6, -6, fg], [pl, k, r, n]) := by unfold evA; rw [if_pos z0]
      rw [e0]
      exact ⟨hw, h0, ha, by show ac ≤ _; omega, Or.inl rfl⟩
    · obtain ⟨q0, q3⟩ := fa_ok z0 h0 hf
      have q1 := rdq_pl ss cn pl k
      have q2 := rdq_act q0
      by_cases z1 : why w (at_ (rdq ss cn pl k) 2) (at_ (rdq ss cn pl k) 3) (at_ (rdq ss cn pl k) 4) ≠ 0
      · have e0 : evA ss cn (f + 1) pl k r n w ac fg = (w, [ac, ac, why w (at_ (rdq ss cn pl k) 2) (at_ (rdq ss cn pl k) 3) (at_ (rdq ss cn pl k) 4), fg], [at_ (rdq ss cn pl k) 1, at_ (rdq ss cn pl k) 2, at_ (rdq ss cn pl k) 3, at_ (rdq ss cn pl k) 4]) := by conv => { lhs; unfold evA }; rw [if_neg z0, if_pos z1]
        rw [e0]
        exact ⟨hw, by show 0 ≤ at_ (rdq ss cn pl k) 1; omega, ha, by show ac ≤ _; omega, Or.inr ha⟩
      · have hy : why w (at_ (rdq ss cn pl k) 2) (at_ (rdq ss cn pl k) 3) (at_ (rdq ss cn pl k) 4) = 0 := by omega
        have hw2 := wf_prf hw q2 hy
        have e9 := ih (at_ (rdq ss cn pl k) 1) (at_ (rdq ss cn pl k) 2) (at_ (rdq ss cn pl k) 3) (at_ (rdq ss cn pl k) 4) _ (ac + 1) (if fg = -6 ∧ at_ w 18 + at_ w 19 < at_ (prf w (at_ (rdq ss cn pl k) 2) (at_ (rdq ss cn pl k) 3) (at_ (rdq ss cn pl k) 4)) 18 + at_ (prf w (at_ (rdq ss cn pl k) 2) (at_ (rdq ss cn pl k) 3) (at_ (rdq ss cn pl k) 4)) 19 then ac else fg) (by omega) hw2 q3 (by omega)
        unfold evA
        rw [if_neg z0, if_neg z1]
        refine ⟨e9.1, e9.2.1, e9.2.2.1, ?_, e9.2.2.2.2⟩
        have := e9.2.2.2.1
        omega
end C40
