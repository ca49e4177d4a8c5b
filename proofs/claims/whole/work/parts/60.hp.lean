-- the heap of a FourRods; the simple calls of the class
section C60
def hp (w ss : List Int) (cn pl pk pr pn ac st re fg : Int) (we pc : List Int) (li sl : Int) (wt pb sh sd rw : List Int) (sn fd i1 : Int) (w1 sh1 sd1 rw1 : List Int) (sn1 fd1 i2 : Int) (w2 sh2 sd2 rw2 : List Int) (sn2 fd2 : Int) (wd : List Int) (R : MH) : MH :=
  .inl (7, [vR 1, vR 4, vR 6, vR 10, vR 12, vR 17, vR 21, vR 29, vR 37]) :: tobj 1 w :: .inr (0, w.take 8) :: .inr (0, [at_ w 18, at_ w 19]) ::
  pobj 4 cn pl pk pr pn :: .inr (0, ss) ::
  eobj ac st re fg :: tobj 7 we :: .inr (0, we.take 8) :: .inr (0, [at_ we 18, at_ we 19]) ::
  .inl (4, [vR 11]) :: .inr (0, pc) ::
  dobj li sl :: tobj 13 wt :: .inr (0, wt.take 8) :: .inr (0, [at_ wt 18, at_ wt 19]) :: .inr (0, pb) ::
  sobj 17 sn fd :: .inr (0, sh) :: .inr (0, sd) :: .inr (0, rw) ::
  iobj 21 i1 :: tobj 22 w1 :: .inr (0, w1.take 8) :: .inr (0, [at_ w1 18, at_ w1 19]) :: sobj 25 sn1 fd1 :: .inr (0, sh1) :: .inr (0, sd1) :: .inr (0, rw1) ::
  iobj 29 i2 :: tobj 30 w2 :: .inr (0, w2.take 8) :: .inr (0, [at_ w2 18, at_ w2 19]) :: sobj 33 sn2 fd2 :: .inr (0, sh2) :: .inr (0, sd2) :: .inr (0, rw2) ::
  tobj 37 wd :: .inr (0, wd.take 8) :: .inr (0, [at_ wd 18, at_ wd 19]) :: R
variable {xs : List Int} {w ss : List Int} {cn pl pk pr pn ac st re fg : Int} {we pc : List Int} {li sl : Int} {wt pb sh sd rw : List Int} {sn fd i1 : Int} {w1 sh1 sd1 rw1 : List Int} {sn1 fd1 i2 : Int} {w2 sh2 sd2 rw2 : List Int} {sn2 fd2 : Int} {wd : List Int} {R : MH}
theorem hp_0 : (hp w ss cn pl pk pr pn ac st re fg we pc li sl wt pb sh sd rw sn fd i1 w1 sh1 sd1 rw1 sn1 fd1 i2 w2 sh2 sd2 rw2 sn2 fd2 wd R)[0]? = some (.inl (7, [vR 1, vR 4, vR 6, vR 10, vR 12, vR 17, vR 21, vR 29, vR 37])) := rfl
theorem hp_T : TabAt (hp w ss cn pl pk pr pn ac st re fg we pc li sl wt pb sh sd rw sn fd i1 w1 sh1 sd1 rw1 sn1 fd1 i2 w2 sh2 sd2 rw2 sn2 fd2 wd R) 1 w := ⟨rfl, rfl, rfl⟩
theorem hp_T7 : TabAt (hp w ss cn pl pk pr pn ac st re fg we pc li sl wt pb sh sd rw sn fd i1 w1 sh1 sd1 rw1 sn1 fd1 i2 w2 sh2 sd2 rw2 sn2 fd2 wd R) 7 we := ⟨rfl, rfl, rfl⟩
theorem hp_Td : TabAt (hp w ss cn pl pk pr pn ac st re fg we pc li sl wt pb sh sd rw sn fd i1 w1 sh1 sd1 rw1 sn1 fd1 i2 w2 sh2 sd2 rw2 sn2 fd2 wd R) 37 wd := ⟨rfl, rfl, rfl⟩
theorem hp_T1 : TabAt (hp w ss cn pl pk pr pn ac st re fg we pc li sl wt pb sh sd rw sn fd i1 w1 sh1 sd1 rw1 sn1 fd1 i2 w2 sh2 sd2 rw2 sn2 fd2 wd R) 22 w1 := ⟨rfl, rfl, rfl⟩
theorem hp_T2 : TabAt (hp w ss cn pl pk pr pn ac st re fg we pc li sl wt pb sh sd rw sn fd i1 w1 sh1 sd1 rw1 sn1 fd1 i2 w2 sh2 sd2 rw2 sn2 fd2 wd R) 30 w2 := ⟨rfl, rfl, rfl⟩
theorem hp_Tt : TabAt (hp w ss cn pl pk pr pn ac st re fg we pc li sl wt pb sh sd rw sn fd i1 w1 sh1 sd1 rw1 sn1 fd1 i2 w2 sh2 sd2 rw2 sn2 fd2 wd R) 13 wt := ⟨rfl, rfl, rfl⟩
theorem hp_E : (hp w ss cn pl pk pr pn ac st re fg we pc li sl wt pb sh sd rw sn fd i1 w1 sh1 sd1 rw1 sn1 fd1 i2 w2 sh2 sd2 rw2 sn2 fd2 wd R)[6]? = some (eobj ac st re fg) := rfl
theorem hp_S : SgAt (hp w ss cn pl pk pr pn ac st re fg we pc li sl wt pb sh sd rw sn fd i1 w1 sh1 sd1 rw1 sn1 fd1 i2 w2 sh2 sd2 rw2 sn2 fd2 wd R) 17 sh sd rw sn fd := ⟨rfl, rfl, rfl, rfl⟩
theorem hp_S1 : SgAt (hp w ss cn pl pk pr pn ac st re fg we pc li sl wt pb sh sd rw sn fd i1 w1 sh1 sd1 rw1 sn1 fd1 i2 w2 sh2 sd2 rw2 sn2 fd2 wd R) 25 sh1 sd1 rw1 sn1 fd1 := ⟨rfl, rfl, rfl, rfl⟩
theorem hp_S2 : SgAt (hp w ss cn pl pk pr pn ac st re fg we pc li sl wt pb sh sd rw sn fd i1 w1 sh1 sd1 rw1 sn1 fd1 i2 w2 sh2 sd2 rw2 sn2 fd2 wd R) 33 sh2 sd2 rw2 sn2 fd2 := ⟨rfl, rfl, rfl, rfl⟩
theorem hp_Q : PassAt (hp w ss cn pl pk pr pn ac st re fg we pc li sl wt pb sh sd rw sn fd i1 w1 sh1 sd1 rw1 sn1 fd1 i2 w2 sh2 sd2 rw2 sn2 fd2 wd R) pc := ⟨rfl, rfl⟩
theorem hp_I1 : (hp w ss cn pl pk pr pn ac st re fg we pc li sl wt pb sh sd rw sn fd i1 w1 sh1 sd1 rw1 sn1 fd1 i2 w2 sh2 sd2 rw2 sn2 fd2 wd R)[21]? = some (iobj 21 i1) := rfl
theorem hp_I2 : (hp w ss cn pl pk pr pn ac st re fg we pc li sl wt pb sh sd rw sn fd i1 w1 sh1 sd1 rw1 sn1 fd1 i2 w2 sh2 sd2 rw2 sn2 fd2 wd R)[29]? = some (iobj 29 i2) := rfl
theorem hp_12 : (hp w ss cn pl pk pr pn ac st re fg we pc li sl wt pb sh sd rw sn fd i1 w1 sh1 sd1 rw1 sn1 fd1 i2 w2 sh2 sd2 rw2 sn2 fd2 wd R)[12]? = some (dobj li sl) := rfl
theorem hp_16 : (hp w ss cn pl pk pr pn ac st re fg we pc li sl wt pb sh sd rw sn fd i1 w1 sh1 sd1 rw1 sn1 fd1 i2 w2 sh2 sd2 rw2 sn2 fd2 wd R)[16]? = some (.inr (0, pb)) := rfl
def PdOK (ss : List Int) (cn pl : Int) : Prop := ss.length = 60 ∧ 0 ≤ cn ∧ cn ≤ 60 ∧ 0 ≤ pl ∧ ∀ j : Int, 0 ≤ j → j < cn → 33 ≤ at_ ss j ∧ at_ ss j ≤ 126
theorem hp_P (hp0 : PdOK ss cn pl) : PadAt (hp w ss cn pl pk pr pn ac st re fg we pc li sl wt pb sh sd rw sn fd i1 w1 sh1 sd1 rw1 sn1 fd1 i2 w2 sh2 sd2 rw2 sn2 fd2 wd R) 4 ss cn pl pk pr pn := ⟨rfl, rfl, hp0⟩
theorem hp_w {v : List Int} : tset (hp w ss cn pl pk pr pn ac st re fg we pc li sl wt pb sh sd rw sn fd i1 w1 sh1 sd1 rw1 sn1 fd1 i2 w2 sh2 sd2 rw2 sn2 fd2 wd R) 1 v = (hp v ss cn pl pk pr pn ac st re fg we pc li sl wt pb sh sd rw sn fd i1 w1 sh1 sd1 rw1 sn1 fd1 i2 w2 sh2 sd2 rw2 sn2 fd2 wd R) := rfl
theorem hp_we {v : List Int} : tset (hp w ss cn pl pk pr pn ac st re fg we pc li sl wt pb sh sd rw sn fd i1 w1 sh1 sd1 rw1 sn1 fd1 i2 w2 sh2 sd2 rw2 sn2 fd2 wd R) 7 v = (hp w ss cn pl pk pr pn ac st re fg v pc li sl wt pb sh sd rw sn fd i1 w1 sh1 sd1 rw1 sn1 fd1 i2 w2 sh2 sd2 rw2 sn2 fd2 wd R) := rfl
theorem hp_wd {v : List Int} : tset (hp w ss cn pl pk pr pn ac st re fg we pc li sl wt pb sh sd rw sn fd i1 w1 sh1 sd1 rw1 sn1 fd1 i2 w2 sh2 sd2 rw2 sn2 fd2 wd R) 37 v = (hp w ss cn pl pk pr pn ac st re fg we pc li sl wt pb sh sd rw sn fd i1 w1 sh1 sd1 rw1 sn1 fd1 i2 w2 sh2 sd2 rw2 sn2 fd2 v R) := rfl
theorem hp_p {a b c d e : Int} : (hp w ss cn pl pk pr pn ac st re fg we pc li sl wt pb sh sd rw sn fd i1 w1 sh1 sd1 rw1 sn1 fd1 i2 w2 sh2 sd2 rw2 sn2 fd2 wd R).set 4 (pobj 4 a b c d e) = (hp w ss a b c d e ac st re fg we pc li sl wt pb sh sd rw sn fd i1 w1 sh1 sd1 rw1 sn1 fd1 i2 w2 sh2 sd2 rw2 sn2 fd2 wd R) := rfl
theorem hp_sn {a b : Int} : (hp w ss cn pl pk pr pn ac st re fg we pc li sl wt pb sh sd rw sn fd i1 w1 sh1 sd1 rw1 sn1 fd1 i2 w2 sh2 sd2 rw2 sn2 fd2 wd R).set 17 (sobj 17 a b) = (hp w ss cn pl pk pr pn ac st re fg we pc li sl wt pb sh sd rw a b i1 w1 sh1 sd1 rw1 sn1 fd1 i2 w2 sh2 sd2 rw2 sn2 fd2 wd R) := rfl
def slA (w : List Int) (r v : Int) : Int := if 0 ≤ r ∧ r < 8 then (if 0 ≤ v ∧ v ≤ wid r then at_ w r else -2) else -1
def slW (w : List Int) (r v : Int) : List Int := if (0 ≤ r ∧ r < 8) ∧ 0 ≤ v ∧ v ≤ wid r then setw w r v else w
theorem sp_F_slide {r v : Int} (hw : WF w) (hr : inR r) (hv : inR v) : Sp xs m_F_slide [vR 0, vI r, vI v] (hp w ss cn pl pk pr pn ac st re fg we pc li sl wt pb sh sd rw sn fd i1 w1 sh1 sd1 rw1 sn1 fd1 i2 w2 sh2 sd2 rw2 sn2 fd2 wd R) (some (vI (slA w r v))) (hp (slW w r v) ss cn pl pk pr pn ac st re fg we pc li sl wt pb sh sd rw sn fd i1 w1 sh1 sd1 rw1 sn1 fd1 i2 w2 sh2 sd2 rw2 sn2 fd2 wd R) := by
  unfold slA slW
  refine en_F_slide ?_
  have hwd := fun (a : 0 ≤ r) (b : r < 8) => wid_bd a b
  refine r_iload_n cd_F_slide_0 rfl ?_
  refine r_cv1 cd_F_slide_1 rfl ck_F_slide_Rods_isRod rfl (Nat.le_of_ble_eq_true rfl) (sp_Rods_isRod hr) ?_
  refine r_ifne_p cd_F_slide_4 (fun c_4 => ?_) (fun c_4 => ?_)
  · skip
    refine r_iload_n cd_F_slide_9 rfl ?_
    refine r_iconst cd_F_slide_10 ?_
    refine r_iload_n cd_F_slide_11 rfl ?_
    refine r_cv1 cd_F_slide_12 rfl ck_F_slide_Rods_lastSlide rfl (Nat.le_of_ble_eq_true rfl) (sp_Rods_lastSlide c_4.1 c_4.2) ?_
    refine r_cv3 cd_F_slide_15 rfl ck_F_slide_F_isWithin rfl (Nat.le_of_ble_eq_true rfl) (sp_isWithin hv ⟨by decide, by decide⟩ (by have := hwd c_4.1 c_4.2; constructor <;> omega)) ?_
    refine r_ifne_p cd_F_slide_18 (fun c_18 => ?_) (fun c_18 => ?_)
    · skip
      refine r_aload_n cd_F_slide_24 rfl ?_
      refine r_getfield cd_F_slide_25 hp_0 rfl ?_
      refine r_iload_n cd_F_slide_28 rfl ?_
      refine r_vv1 cd_F_slide_29 rfl ck_F_slide_Table_slideOf (Nat.le_of_ble_eq_true rfl) hp_T.1 rfl (sp_slideOf hp_T hw c_4.1 c_4.2) ?_
      refine r_istoren4_3 cd_F_slide_32 rfl ?_
      refine r_aload_n cd_F_slide_33 rfl ?_
      refine r_getfield cd_F_slide_34 hp_0 rfl ?_
      refine r_iload_n cd_F_slide_37 rfl ?_
      refine r_iload_n cd_F_slide_38 rfl ?_
      refine r_vz2 cd_F_slide_39 rfl ck_F_slide_Table_slideTo (Nat.le_of_ble_eq_true rfl) hp_T.1 rfl (sp_slideTo hp_T hw c_4.1 c_4.2) ?_
      refine r_iload_n cd_F_slide_42 rfl ?_
      exact r_iret cd_F_slide_43 rt_F_slide (by rw [if_pos c_4, if_pos c_18]) (by rw [if_pos ⟨c_4, c_18⟩]; rfl)
    · skip
      refine r_bipush cd_F_slide_21 ?_
      exact r_iret cd_F_slide_23 rt_F_slide (by rw [if_pos c_4, if_neg c_18]) (by rw [if_neg (fun z => c_18 z.2)])
  · skip
    refine r_iconst cd_F_slide_7 ?_
    exact r_iret cd_F_slide_8 rt_F_slide (by rw [if_neg c_4]) (by rw [if_neg (fun z => c_4 z.1)])
def hoA (w : List Int) (r v : Int) : Int := if 0 ≤ r ∧ r < 8 then (if v ≠ 0 ∧ at_ w (8 + r) ≠ 1 ∧ 2 ≤ hcn w (sid r) (-1) then -4 else hcn (setw w (8 + r) v) (sid r) (-1)) else -1
def hoW (w : List Int) (r v : Int) : List Int := if (0 ≤ r ∧ r < 8) ∧ ¬ (v ≠ 0 ∧ at_ w (8 + r) ≠ 1 ∧ 2 ≤ hcn w (sid r) (-1)) then setw w (8 + r) v else w
theorem wf_hoW {r v : Int} (hw : WF w) (hv : v = 0 ∨ v = 1) : WF (hoW w r v) := by
  unfold hoW
  split
  · next z =>
    refine wf_hold hw z.1.1 z.1.2 hv (fun e => ?_)
    by_cases q : at_ w (8 + r) = 1
    · exact Or.inl q
    · right
      by_cases q2 : hcn w (sid r) (-1) < 2
      · exact q2
      · exact absurd ⟨by omega, q, by omega⟩ z.2
  · exact hw
theorem wf_slW {r v : Int} (hw : WF w) : WF (slW w r v) := by
  unfold slW
  split
  · next z => exact wf_slide hw z.1.1 z.1.2 z.2.1 z.2.2
  · exact hw
theorem sp_F_hold {r v : Int} (hw : WF w) (hr : inR r) (hv : v = 0 ∨ v = 1) : Sp xs m_F_hold [vR 0, vI r, vI v] (hp w ss cn pl pk pr pn ac st re fg we pc li sl wt pb sh sd rw sn fd i1 w1 sh1 sd1 rw1 sn1 fd1 i2 w2 sh2 sd2 rw2 sn2 fd2 wd R) (some (vI (hoA w r v))) (hp (hoW w r v) ss cn pl pk pr pn ac st re fg we pc li sl wt pb sh sd rw sn fd i1 w1 sh1 sd1 rw1 sn1 fd1 i2 w2 sh2 sd2 rw2 sn2 fd2 wd R) := by
  have hw2 := wf_hoW (w := w) (r := r) hw hv
  unfold hoA
  refine en_F_hold ?_
  have hsd := fun (a : 0 ≤ r) (b : r < 8) => sid_bd a b
  have hhc := hcA_bd hw (sid r) (-1) 8 0 (by omega) (by omega)
  have fin : (0 ≤ r ∧ r < 8) → ¬ (v ≠ 0 ∧ at_ w (8 + r) ≠ 1 ∧ 2 ≤ hcn w (sid r) (-1)) → Rn xs m_F_hold 44 [vR 0, vI r, vI v, vI (sid r)] [] (hp w ss cn pl pk pr pn ac st re fg we pc li sl wt pb sh sd rw sn fd i1 w1 sh1 sd1 rw1 sn1 fd1 i2 w2 sh2 sd2 rw2 sn2 fd2 wd R) (some (vI (hcn (setw w (8 + r) v) (sid r) (-1)))) (hp (setw w (8 + r) v) ss cn pl pk pr pn ac st re fg we pc li sl wt pb sh sd rw sn fd i1 w1 sh1 sd1 rw1 sn1 fd1 i2 w2 sh2 sd2 rw2 sn2 fd2 wd R) := by
    intro a b
    have a3 := hsd a.1 a.2
    have hw3 : WF (setw w (8 + r) v) := by unfold hoW at hw2; rw [if_pos ⟨a, b⟩] at hw2; exact hw2
    refine r_aload_n cd_F_hold_44 rfl ?_
    refine r_getfield cd_F_hold_45 (by first | exact hp_0 | (rw [hp_w]; exact hp_0)) rfl ?_
    refine r_iload_n cd_F_hold_48 rfl ?_
    refine r_iload_n cd_F_hold_49 rfl ?_
    refine r_vz2 cd_F_hold_50 rfl ck_F_hold_Table_setHeld (Nat.le_of_ble_eq_true rfl) hp_T.1 rfl (sp_setHeld hp_T hw a.1 a.2 hv) ?_
    skip
    refine r_aload_n cd_F_hold_53 rfl ?_
    refine r_getfield cd_F_hold_54 (by first | exact hp_0 | (rw [hp_w]; exact hp_0)) rfl ?_
    refine r_iload_n cd_F_hold_57 rfl ?_
    refine r_vv1 cd_F_hold_58 rfl ck_F_hold_Table_heldBy (Nat.le_of_ble_eq_true rfl) (tab_tset hp_T).1 rfl (sp_heldBy (tab_tset hp_T) hw3 ⟨by omega, by omega⟩) ?_
    exact r_iret cd_F_hold_61 rt_F_hold (by first | rfl | omega | (split <;> first | rfl | omega)) (by rfl)
  refine r_iload_n cd_F_hold_0 rfl ?_
  refine r_cv1 cd_F_hold_1 rfl ck_F_hold_Rods_isRod rfl (Nat.le_of_ble_eq_true rfl) (sp_Rods_isRod hr) ?_
  refine r_ifne_p cd_F_hold_4 (fun c_4 => ?_) (fun c_4 => ?_)
  · skip
    refine r_iload_n cd_F_hold_9 rfl ?_
    refine r_cv1 cd_F_hold_10 rfl ck_F_hold_Rods_sideOf rfl (Nat.le_of_ble_eq_true rfl) (sp_sid c_4.1 c_4.2) ?_
    refine r_istoren4_3 cd_F_hold_13 rfl ?_
    refine r_iload_n cd_F_hold_14 rfl ?_
    refine r_if_eq cd_F_hold_15 ⟨by omega, by omega⟩ (fun c_15 => ?_) (fun c_15 => ?_)
    · skip
      (rw [if_pos c_4, if_neg (by omega)]; unfold hoW; rw [if_pos ⟨c_4, by omega⟩]; exact fin c_4 (by omega))
    · skip
      refine r_aload_n cd_F_hold_18 rfl ?_
      refine r_getfield cd_F_hold_19 hp_0 rfl ?_
      refine r_iload_n cd_F_hold_22 rfl ?_
      refine r_vv1 cd_F_hold_23 rfl ck_F_hold_Table_isHeld (Nat.le_of_ble_eq_true rfl) hp_T.1 rfl (sp_isHeld hp_T hw c_4.1 c_4.2) ?_
      refine r_ifne_p cd_F_hold_26 (fun c_26 => ?_) (fun c_26 => ?_)
      · skip
        (rw [if_pos c_4, if_neg (by omega)]; unfold hoW; rw [if_pos ⟨c_4, by omega⟩]; exact fin c_4 (by omega))
      · skip
        refine r_aload_n cd_F_hold_29 rfl ?_
        refine r_getfield cd_F_hold_30 hp_0 rfl ?_
        refine r_iload_n cd_F_hold_33 rfl ?_
        refine r_vv1 cd_F_hold_34 rfl ck_F_hold_Table_heldBy (Nat.le_of_ble_eq_true rfl) hp_T.1 rfl (sp_heldBy hp_T hw (by have := hsd c_4.1 c_4.2; constructor <;> omega)) ?_
        refine r_iconst cd_F_hold_37 ?_
        refine r_icmp_lt cd_F_hold_38 ⟨by unfold hcn; omega, by unfold hcn; omega⟩ ⟨by decide, by decide⟩ (fun c_38 => ?_) (fun c_38 => ?_)
        · skip
          (rw [if_pos c_4, if_neg (by omega)]; unfold hoW; rw [if_pos ⟨c_4, by omega⟩]; exact fin c_4 (by omega))
        · skip
          refine r_bipush cd_F_hold_41 ?_
          exact r_iret cd_F_hold_43 rt_F_hold (by rw [if_pos c_4, if_pos ⟨by omega, by omega, by omega⟩]) (by unfold hoW; rw [if_neg (fun z => z.2 ⟨by omega, by omega, by omega⟩)])
  · skip
    refine r_iconst cd_F_hold_7 ?_
    exact r_iret cd_F_hold_8 rt_F_hold (by rw [if_neg c_4]) (by unfold hoW; rw [if_neg (fun z => c_4 z.1)])
def baA (r m : Int) : Int := if r = -1 ∨ (0 ≤ m ∧ 0 ≤ r ∧ r < 8 ∧ m < men r) then 1 else -1
def baW (w : List Int) (r m : Int) : List Int := if r = -1 then setw (setw w 16 (-6)) 17 (-6) else if 0 ≤ m ∧ 0 ≤ r ∧ r < 8 ∧ m < men r then setw (setw w 16 r) 17 m else w
theorem wf_baW {r m : Int} (hw : WF w) : WF (baW w r m) := by
  unfold baW
  split
  · exact wf_ball hw (Or.inl ⟨rfl, rfl⟩)
  · split
    · next z => exact wf_ball hw (Or.inr ⟨z.2.1, z.2.2.1, z.1, z.2.2.2⟩)
    · exact hw
theorem sp_F_ball {r m : Int} (hw : WF w) (hr : inR r) (hm : inR m) : Sp xs m_F_ball [vR 0, vI r, vI m] (hp w ss cn pl pk pr pn ac st re fg we pc li sl wt pb sh sd rw sn fd i1 w1 sh1 sd1 rw1 sn1 fd1 i2 w2 sh2 sd2 rw2 sn2 fd2 wd R) (some (vI (baA r m))) (hp (baW w r m) ss cn pl pk pr pn ac st re fg we pc li sl wt pb sh sd rw sn fd i1 w1 sh1 sd1 rw1 sn1 fd1 i2 w2 sh2 sd2 rw2 sn2 fd2 wd R) := by
  unfold baA baW
  have hr2 := hr
  obtain ⟨r1, r2⟩ := hr2
  have hmb := fun (a : 0 ≤ r) (b : r < 8) => men_bd a b
  refine en_F_ball ?_
  refine r_iload_n cd_F_ball_0 rfl ?_
  refine r_iconst cd_F_ball_1 ?_
  refine r_icmp_ne cd_F_ball_2 ⟨by omega, by omega⟩ ⟨by decide, by decide⟩ (fun c_2 => ?_) (fun c_2 => ?_)
  · skip
    refine r_iload_n cd_F_ball_14 rfl ?_
    refine r_iload_n cd_F_ball_15 rfl ?_
    refine r_cv2 cd_F_ball_16 rfl ck_F_ball_Rods_isMan rfl (Nat.le_of_ble_eq_true rfl) (sp_Rods_isMan hr hm) ?_
    refine r_ifne_p cd_F_ball_19 (fun c_19 => ?_) (fun c_19 => ?_)
    · skip
      refine r_aload_n cd_F_ball_24 rfl ?_
      refine r_getfield cd_F_ball_25 hp_0 rfl ?_
      refine r_bipush cd_F_ball_28 ?_
      refine r_iload_n cd_F_ball_30 rfl ?_
      refine r_imul cd_F_ball_31 ?_
      refine r_iload_n cd_F_ball_32 rfl ?_
      refine r_iadd cd_F_ball_33 ?_
      refine r_vz1 cd_F_ball_34 rfl ck_F_ball_Table_giveBall (Nat.le_of_ble_eq_true rfl) hp_T.1 rfl (sp_giveBall hp_T hw.1 c_19.2.1 c_19.2.2.1 c_19.1 (by have := hmb c_19.2.1 c_19.2.2.1; have := c_19.2.2.2; omega)) ?_
      refine r_iconst cd_F_ball_37 ?_
      exact r_iret cd_F_ball_38 rt_F_ball (by rw [if_pos (Or.inr c_19)]) (by rw [if_neg c_2, if_pos c_19]; rfl)
    · skip
      refine r_iconst cd_F_ball_22 ?_
      exact r_iret cd_F_ball_23 rt_F_ball (by rw [if_neg (by omega)]) (by rw [if_neg c_2, if_neg c_19])
  · skip
    refine r_aload_n cd_F_ball_5 rfl ?_
    refine r_getfield cd_F_ball_6 hp_0 rfl ?_
    refine r_vz0 cd_F_ball_9 rfl ck_F_ball_Table_loseBall (Nat.le_of_ble_eq_true rfl) hp_T.1 rfl (sp_loseBall hp_T hw.1) ?_
    refine r_iconst cd_F_ball_12 ?_
    exact r_iret cd_F_ball_13 rt_F_ball (by rw [if_pos (Or.inl c_2)]) (by rw [if_pos c_2]; rfl)
def goA (w : List Int) (s v : Int) : Int := if s = 0 ∨ s = 1 then (if 0 ≤ v ∧ v ≤ 10 then at_ w (18 + s) else -2) else -1
def goW (w : List Int) (s v : Int) : List Int := if (s = 0 ∨ s = 1) ∧ 0 ≤ v ∧ v ≤ 10 then setw w (18 + s) v else w
theorem wf_goW {s v : Int} (hw : WF w) : WF (goW w s v) := by
  unfold goW
  split
  · next z => exact wf_top hw (by omega) z.2.1 (fun _ => z.2.2) (by omega)
  · exact hw
theorem sp_F_goals {s v : Int} (hw : WF w) (hs : inR s) (hv : inR v) : Sp xs m_F_goals [vR 0, vI s, vI v] (hp w ss cn pl pk pr pn ac st re fg we pc li sl wt pb sh sd rw sn fd i1 w1 sh1 sd1 rw1 sn1 fd1 i2 w2 sh2 sd2 rw2 sn2 fd2 wd R) (some (vI (goA w s v))) (hp (goW w s v) ss cn pl pk pr pn ac st re fg we pc li sl wt pb sh sd rw sn fd i1 w1 sh1 sd1 rw1 sn1 fd1 i2 w2 sh2 sd2 rw2 sn2 fd2 wd R) := by
  unfold goA goW
  refine en_F_goals ?_
  refine r_iload_n cd_F_goals_0 rfl ?_
  refine r_cv1 cd_F_goals_1 rfl ck_F_goals_F_isBit rfl (Nat.le_of_ble_eq_true rfl) (sp_isBit hs) ?_
  refine r_ifne_p cd_F_goals_4 (fun c_4 => ?_) (fun c_4 => ?_)
  · skip
    refine r_iload_n cd_F_goals_9 rfl ?_
    refine r_iconst cd_F_goals_10 ?_
    refine r_bipush cd_F_goals_11 ?_
    refine r_cv3 cd_F_goals_13 rfl ck_F_goals_F_isWithin rfl (Nat.le_of_ble_eq_true rfl) (sp_isWithin hv ⟨by decide, by decide⟩ ⟨by decide, by decide⟩) ?_
    refine r_ifne_p cd_F_goals_16 (fun c_16 => ?_) (fun c_16 => ?_)
    · skip
      refine r_aload_n cd_F_goals_22 rfl ?_
      refine r_getfield cd_F_goals_23 hp_0 rfl ?_
      refine r_iload_n cd_F_goals_26 rfl ?_
      refine r_vv1 cd_F_goals_27 rfl ck_F_goals_Table_scoredBy (Nat.le_of_ble_eq_true rfl) hp_T.1 rfl (sp_scoredBy hp_T c_4) ?_
      refine r_istoren4_3 cd_F_goals_30 rfl ?_
      refine r_aload_n cd_F_goals_31 rfl ?_
      refine r_getfield cd_F_goals_32 hp_0 rfl ?_
      refine r_iload_n cd_F_goals_35 rfl ?_
      refine r_iload_n cd_F_goals_36 rfl ?_
      refine r_vz2 cd_F_goals_37 rfl ck_F_goals_Table_setScored (Nat.le_of_ble_eq_true rfl) hp_T.1 rfl (sp_setScored hp_T hw.1 c_4) ?_
      refine r_iload_n cd_F_goals_40 rfl ?_
      exact r_iret cd_F_goals_41 rt_F_goals (by rw [if_pos c_4, if_pos c_16]) (by rw [if_pos ⟨c_4, c_16⟩]; rfl)
    · skip
      refine r_bipush cd_F_goals_19 ?_
      exact r_iret cd_F_goals_21 rt_F_goals (by rw [if_pos c_4, if_neg c_16]) (by rw [if_neg (fun z => c_16 z.2)])
  · skip
    refine r_iconst cd_F_goals_7 ?_
    exact r_iret cd_F_goals_8 rt_F_goals (by rw [if_neg c_4]) (by rw [if_neg (fun z => c_4 z.1)])
def syA (cn s : Int) : Int := if 33 ≤ s ∧ s ≤ 126 then (if cn = 60 then -4 else cn + 1) else -2
def syS (ss : List Int) (cn s : Int) : List Int := if (33 ≤ s ∧ s ≤ 126) ∧ cn ≠ 60 then ss.set cn.toNat s else ss
def syN (cn s : Int) : Int := if (33 ≤ s ∧ s ≤ 126) ∧ cn ≠ 60 then cn + 1 else cn
theorem pd_say {s : Int} (hp0 : PdOK ss cn pl) : PdOK (syS ss cn s) (syN cn s) pl := by
  obtain ⟨a1, a2, a3, a4, a5⟩ := hp0
  unfold syS syN
  split
  · next z =>
    refine ⟨by rw [List.length_set]; exact a1, by omega, by omega, a4, fun j j0 j1 => ?_⟩
    rw [az_set a2 (by omega) j0]
    split
    · exact z.1
    · exact a5 j j0 (by omega)
  · exact ⟨a1, a2, a3, a4, a5⟩
theorem sp_F_say {s : Int} (hp0 : PdOK ss cn pl) (hs : inR s) : Sp xs m_F_say [vR 0, vI s] (hp w ss cn pl pk pr pn ac st re fg we pc li sl wt pb sh sd rw sn fd i1 w1 sh1 sd1 rw1 sn1 fd1 i2 w2 sh2 sd2 rw2 sn2 fd2 wd R) (some (vI (syA cn s))) (hp w (syS ss cn s) (syN cn s) pl pk pr pn ac st re fg we pc li sl wt pb sh sd rw sn fd i1 w1 sh1 sd1 rw1 sn1 fd1 i2 w2 sh2 sd2 rw2 sn2 fd2 wd R) := by
  unfold syA syS syN
  have hq := hp0
  obtain ⟨a1, a2, a3, a4, a5⟩ := hq
  refine en_F_say ?_
  by_cases z : cn = 60
  · skip
    refine r_iload_n cd_F_say_0 rfl ?_
    refine r_bipush cd_F_say_1 ?_
    refine r_bipush cd_F_say_3 ?_
    refine r_cv3 cd_F_say_5 rfl ck_F_say_F_isWithin rfl (Nat.le_of_ble_eq_true rfl) (sp_isWithin hs ⟨by decide, by decide⟩ ⟨by decide, by decide⟩) ?_
    refine r_ifne_p cd_F_say_8 (fun c_8 => ?_) (fun c_8 => ?_)
    · skip
      refine r_aload_n cd_F_say_14 rfl ?_
      refine r_getfield cd_F_say_15 hp_0 rfl ?_
      refine r_iload_n cd_F_say_18 rfl ?_
      refine r_vv1 cd_F_say_19 rfl ck_F_say_Pad_add (Nat.le_of_ble_eq_true rfl) (hp_P hp0).1 rfl (sp_Pad_add_f (hp_P hp0) z) ?_
      refine r_if_eq cd_F_say_22 ⟨by decide, by decide⟩ (fun _ => ?_) (fun c_22 => absurd c_22 (by decide))
      refine r_bipush cd_F_say_35 ?_
      exact r_iret cd_F_say_37 rt_F_say (by rw [if_pos c_8, if_pos z]) (by rw [if_neg (fun y => y.2 z), if_neg (fun y => y.2 z)])
    · skip
      refine r_bipush cd_F_say_11 ?_
      exact r_iret cd_F_say_13 rt_F_say (by rw [if_neg c_8]) (by rw [if_neg (fun z => c_8 z.1), if_neg (fun z => c_8 z.1)])
  · skip
    have h2 : 33 ≤ s ∧ s ≤ 126 → PadAt (hp w (ss.set cn.toNat s) (cn+1) pl pk pr pn ac st re fg we pc li sl wt pb sh sd rw sn fd i1 w1 sh1 sd1 rw1 sn1 fd1 i2 w2 sh2 sd2 rw2 sn2 fd2 wd R) 4 (ss.set cn.toNat s) (cn + 1) pl pk pr pn := by
      intro q
      have := pd_say (s := s) hp0
      unfold syS syN at this
      rw [if_pos ⟨q, z⟩, if_pos ⟨q, z⟩] at this
      exact hp_P this
    refine r_iload_n cd_F_say_0 rfl ?_
    refine r_bipush cd_F_say_1 ?_
    refine r_bipush cd_F_say_3 ?_
    refine r_cv3 cd_F_say_5 rfl ck_F_say_F_isWithin rfl (Nat.le_of_ble_eq_true rfl) (sp_isWithin hs ⟨by decide, by decide⟩ ⟨by decide, by decide⟩) ?_
    refine r_ifne_p cd_F_say_8 (fun c_8 => ?_) (fun c_8 => ?_)
    · skip
      refine r_aload_n cd_F_say_14 rfl ?_
      refine r_getfield cd_F_say_15 hp_0 rfl ?_
      refine r_iload_n cd_F_say_18 rfl ?_
      refine r_vv1 cd_F_say_19 rfl ck_F_say_Pad_add (Nat.le_of_ble_eq_true rfl) (by first | exact (hp_P hp0).1 | exact (h2 c_8).1) rfl (sp_Pad_add_t (hp_P hp0) (by omega)) ?_
      skip
      refine r_if_eq cd_F_say_22 ⟨by decide, by decide⟩ (fun c_22 => absurd c_22 (by decide)) (fun _ => ?_)
      refine r_aload_n cd_F_say_25 rfl ?_
      refine r_getfield cd_F_say_26 hp_0 rfl ?_
      refine r_vv0 cd_F_say_29 rfl ck_F_say_Pad_size (Nat.le_of_ble_eq_true rfl) (by first | exact (hp_P hp0).1 | exact (h2 c_8).1) rfl (sp_Pad_size (h2 c_8)) ?_
      refine r_goto cd_F_say_32 ?_
      exact r_iret cd_F_say_37 rt_F_say (by rw [if_pos c_8, if_neg z]) (by rw [if_pos ⟨c_8, z⟩, if_pos ⟨c_8, z⟩]; rfl)
    · skip
      refine r_bipush cd_F_say_11 ?_
      exact r_iret cd_F_say_13 rt_F_say (by rw [if_neg c_8]) (by rw [if_neg (fun z => c_8 z.1), if_neg (fun z => c_8 z.1)])
theorem sp_F_wipe (hp0 : PdOK ss cn pl) : Sp xs m_F_wipe [vR 0] (hp w ss cn pl pk pr pn ac st re fg we pc li sl wt pb sh sd rw sn fd i1 w1 sh1 sd1 rw1 sn1 fd1 i2 w2 sh2 sd2 rw2 sn2 fd2 wd R) (some (vI cn)) (hp w ss 0 pl pk pr pn ac st re fg we pc li sl wt pb sh sd rw sn fd i1 w1 sh1 sd1 rw1 sn1 fd1 i2 w2 sh2 sd2 rw2 sn2 fd2 wd R) := by
  refine en_F_wipe ?_
  refine r_aload_n cd_F_wipe_0 rfl ?_
  refine r_getfield cd_F_wipe_1 hp_0 rfl ?_
  refine r_vv0 cd_F_wipe_4 rfl ck_F_wipe_Pad_size (Nat.le_of_ble_eq_true rfl) (hp_P hp0).1 rfl (sp_Pad_size (hp_P hp0)) ?_
  refine r_istoren2_1 cd_F_wipe_7 rfl ?_
  refine r_aload_n cd_F_wipe_8 rfl ?_
  refine r_getfield cd_F_wipe_9 hp_0 rfl ?_
  refine r_vz0 cd_F_wipe_12 rfl ck_F_wipe_Pad_clear (Nat.le_of_ble_eq_true rfl) (hp_P hp0).1 rfl (sp_Pad_clear (hp_P hp0)) ?_
  refine r_iload_n cd_F_wipe_15 rfl ?_
  exact r_iret cd_F_wipe_16 rt_F_wipe (by first | rfl | omega | (split <;> first | rfl | omega)) (by rfl)
end C60
