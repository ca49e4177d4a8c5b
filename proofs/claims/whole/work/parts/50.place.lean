-- Defence.place
section C50
variable {xs : List Int} {h : MH} {w tw pb : List Int} {li sl : Int}
def dh (h : MH) (tw pb : List Int) (li sl : Int) : MH := ((tset h 13 tw).set 16 (.inr (0, pb))).set 12 (dobj li sl)
def DefB (h : MH) : Prop := (∃ wT : List Int, TabAt h 13 wT ∧ wT.length = 21) ∧ (∃ c, h[16]? = some c) ∧ (∃ c, h[12]? = some c)
theorem dh_t (hB : DefB h) : TabAt (dh h tw pb li sl) 13 tw := by
  obtain ⟨⟨wT, hT, -⟩, -, -⟩ := hB
  exact tab_sne (tab_sne (tab_tset hT) (by omega) (by omega) (by omega)) (by omega) (by omega) (by omega)
theorem dh_16 (hB : DefB h) : (dh h tw pb li sl)[16]? = some (.inr (0, pb)) := by
  obtain ⟨-, ⟨c, hc⟩, -⟩ := hB
  exact gs_ne (by omega) (gs_eq ((tset_ne (by omega) (by omega) (by omega)).trans hc))
theorem dh_12 (hB : DefB h) : (dh h tw pb li sl)[12]? = some (dobj li sl) := by
  obtain ⟨-, -, ⟨c, hc⟩⟩ := hB
  exact gs_eq (gs_ne (by omega) ((tset_ne (by omega) (by omega) (by omega)).trans hc))
theorem dh_ts {tw2 : List Int} : tset (dh h tw pb li sl) 13 tw2 = dh h tw2 pb li sl := by
  unfold dh tset
  apply List.ext_getElem?
  intro j
  simp only [List.getElem?_set, List.length_set]
  (repeat' split) <;> first | rfl | omega
theorem dh_s16 {pb2 : List Int} : (dh h tw pb li sl).set 16 (.inr (0, pb2)) = dh h tw pb2 li sl := by
  unfold dh
  rw [set_comm (by omega), List.set_set]
theorem dh_s12 {li2 sl2 : Int} : (dh h tw pb li sl).set 12 (dobj li2 sl2) = dh h tw pb li2 sl2 := by
  unfold dh
  rw [List.set_set]
theorem dh_0 (hD : h[12]? = some (dobj li sl)) (hP : h[16]? = some (.inr (0, pb))) : tset h 13 tw = dh h tw pb li sl := by
  unfold dh
  rw [set_same ((tset_ne (by omega) (by omega) (by omega)).trans hP), set_same ((tset_ne (by omega) (by omega) (by omega)).trans hD)]
def PB (pb : List Int) : Prop := pb.length = 41 ∧ ∀ j : Int, 0 ≤ j → j < 41 → 0 ≤ at_ pb j ∧ at_ pb j < 524288
theorem PB_set {v : Int} {x : Nat} (hb : PB pb) (h0 : 0 ≤ v) (h1 : v < 41) (hx : x < 524288) : PB (pb.set v.toNat (x : Int)) := by
  refine ⟨by rw [List.length_set]; exact hb.1, fun j j0 j1 => ?_⟩
  rw [az_set h0 (by rw [hb.1]; exact h1) j0]
  have := hb.2 j j0 j1
  split <;> omega
def bkP (w : List Int) (s v : Int) : Int → Bool := fun d => opn w s d && pst (setw w (bk s) v) (bk s) d
def bkA (w : List Int) (s : Int) : Nat → Int → List Int → List Int
  | 0, _, pb => pb
  | k + 1, v, pb => bkA w s k (v + 1) (pb.set v.toNat (bsN (bkP w s v) 19 : Nat))
theorem bkA_PB {s : Int} : ∀ (k : Nat) (v : Int) (pb : List Int), 0 ≤ v → v + k ≤ 41 → PB pb → PB (bkA w s k v pb)
  | 0, _, _, _, _, hb => hb
  | k + 1, v, pb, h0, h1, hb => by
    unfold bkA
    exact bkA_PB k (v + 1) _ (by omega) (by omega) (PB_set hb h0 (by omega) (bsN19 _))
def kpA (wb pb : List Int) (s : Int) : Nat → Int → Int → Int → Int × Int
  | 0, _, li, sl => (li, sl)
  | k + 1, v, li, sl => kpA wb pb s k (v + 1) (tkA pb (bsN (pst (setw wb (kp s) v) (kp s)) 19) v 25 0 li sl).1 (tkA pb (bsN (pst (setw wb (kp s) v) (kp s)) 19) v 25 0 li sl).2
theorem tkA_bd {pk : Nat} {v : Int} : ∀ (k : Nat) (j li sl : Int), 0 ≤ li → li ≤ 100 → 0 ≤ (tkA pb pk v k j li sl).1 ∧ (tkA pb pk v k j li sl).1 ≤ 100
  | 0, _, li, sl, h0, h1 => ⟨h0, h1⟩
  | k + 1, j, li, sl, h0, h1 => by
    have := bsm_bd ((at_ pb j).toNat &&& pk)
    unfold tkA
    split
    · exact tkA_bd k (j + 1) _ _ (by omega) (by omega)
    · exact tkA_bd k (j + 1) _ _ h0 h1
theorem wid_bk {s : Int} : wid (bk s) = 24 := by unfold bk; split <;> decide
theorem wid_kp {s : Int} : wid (kp s) = 40 := by unfold kp; split <;> decide
theorem bk_bd {s : Int} : 0 ≤ bk s ∧ bk s < 8 := by unfold bk; split <;> omega
theorem kp_bd {s : Int} : 0 ≤ kp s ∧ kp s < 8 := by unfold kp; split <;> omega
theorem setw_setw {i u v : Int} : setw (setw w i u) i v = setw w i v := by unfold setw; rw [List.set_set]
theorem setw_16 {i v : Int} (hw : WF w) (h0 : 0 ≤ i) (h1 : i < 8) : at_ (setw w i v) 16 = at_ w 16 := by rw [sw_at hw.1 h0 (by omega) (by omega), if_neg (by omega)]
theorem lp_keep {s opb : Int} {wb : List Int} (hs : s = 0 ∨ s = 1) (hB : DefB h) (hp : PB pb) (hw : WF wb) (ha : at_ wb 16 ≠ -6) : ∀ (k : Nat) (v li sl : Int) (tw : List Int), 0 ≤ v → v + k = 41 → 0 ≤ li → li ≤ 100 → WF tw → (∀ x, setw tw (kp s) x = setw wb (kp s) x) → (k = 0 → tw = setw wb (kp s) 40) → Rn xs m_Defence_place 111 [vR 12, vR 1, vI s, vI (kp s), vI (bk s), vI opb, vI 24, vI v] [] (dh h tw pb li sl) none (dh h (setw wb (kp s) 40) pb (kpA wb pb s k v li sl).1 (kpA wb pb s k v li sl).2) := by
  intro k
  have hkb := kp_bd (s := s)
  induction k with
  | zero =>
    intro v li sl tw v0 v1 i0 i1 htw hx hz
    have hlast := sp_Rods_lastSlide (xs := xs) (h := dh h tw pb li sl) hkb.1 hkb.2
    rw [wid_kp] at hlast
    refine r_iload cd_Defence_place_111 rfl ?_
    refine r_iload_n cd_Defence_place_113 rfl ?_
    refine r_cv1 cd_Defence_place_114 rfl ck_Defence_place_Rods_lastSlide rfl (Nat.le_of_ble_eq_true rfl) hlast ?_
    refine r_icmp_gt cd_Defence_place_117 ⟨by omega, by omega⟩ ⟨by omega, by omega⟩ (fun c_117 => ?_) (fun c_117 => ?_)
    · skip
      exact r_vret cd_Defence_place_152 rt_Defence_place (by (rw [hz rfl]; rfl))
    · skip
      omega
  | succ k ih =>
    intro v li sl tw v0 v1 i0 i1 htw hx hz
    have hlast := sp_Rods_lastSlide (xs := xs) (h := dh h tw pb li sl) hkb.1 hkb.2
    rw [wid_kp] at hlast
    have q1 := sp_slideTo (xs := xs) (v := v) (dh_t (tw := tw) (pb := pb) (li := li) (sl := sl) hB) htw hkb.1 hkb.2
    rw [dh_ts, hx] at q1
    have w2 : WF (setw wb (kp s) v) := wf_slide hw hkb.1 hkb.2 v0 (by rw [wid_kp]; omega)
    have a2 : at_ (setw wb (kp s) v) 16 ≠ -6 := by rw [setw_16 hw hkb.1 hkb.2]; exact ha
    have q2 := sp_shotsPast (xs := xs) (dh_t (tw := setw wb (kp s) v) (pb := pb) (li := li) (sl := sl) hB) w2 a2 hkb.1 hkb.2
    have q3 := sp_tryKeeper (xs := xs) (v := v) (lst := 24) hp.1 hp.2 (bsN19 (pst (setw wb (kp s) v) (kp s))) (by omega) (by omega) i0 i1 (dh_12 (tw := setw wb (kp s) v) (pb := pb) (li := li) (sl := sl) hB) (dh_16 hB)
    rw [dh_s12] at q3
    have tb := tkA_bd (pb := pb) (pk := bsN (pst (setw wb (kp s) v) (kp s)) 19) (v := v) 25 0 li sl i0 i1
    have e9 := ih (v + 1) (tkA pb (bsN (pst (setw wb (kp s) v) (kp s)) 19) v 25 0 li sl).1 (tkA pb (bsN (pst (setw wb (kp s) v) (kp s)) 19) v 25 0 li sl).2 (setw wb (kp s) v) (by omega) (by omega) tb.1 tb.2 w2 (fun x => setw_setw) (fun z => by rw [show v = 40 by omega])
    refine r_iload cd_Defence_place_111 rfl ?_
    refine r_iload_n cd_Defence_place_113 rfl ?_
    refine r_cv1 cd_Defence_place_114 rfl ck_Defence_place_Rods_lastSlide rfl (Nat.le_of_ble_eq_true rfl) hlast ?_
    refine r_icmp_gt cd_Defence_place_117 ⟨by omega, by omega⟩ ⟨by omega, by omega⟩ (fun c_117 => ?_) (fun c_117 => ?_)
    · skip
      omega
    · skip
      refine r_aload_n cd_Defence_place_120 rfl ?_
      refine r_getfield cd_Defence_place_121 (dh_12 hB) rfl ?_
      refine r_iload_n cd_Defence_place_124 rfl ?_
      refine r_iload cd_Defence_place_125 rfl ?_
      refine r_vz2 cd_Defence_place_127 rfl ck_Defence_place_Table_slideTo (Nat.le_of_ble_eq_true rfl) (dh_t hB).1 rfl q1 ?_
      refine r_aload_n cd_Defence_place_130 rfl ?_
      refine r_iload cd_Defence_place_131 rfl ?_
      refine r_aload_n cd_Defence_place_133 rfl ?_
      refine r_getfield cd_Defence_place_134 (dh_12 hB) rfl ?_
      refine r_iload_n cd_Defence_place_137 rfl ?_
      refine r_vv1 cd_Defence_place_138 rfl ck_Defence_place_Table_shotsPast (Nat.le_of_ble_eq_true rfl) (dh_t hB).1 rfl q2 ?_
      refine r_iload cd_Defence_place_141 rfl ?_
      refine r_vz3 cd_Defence_place_143 rfl ck_Defence_place_Defence_tryKeeper (Nat.le_of_ble_eq_true rfl) (dh_12 hB) rfl q3 ?_
      refine r_iinc8_7 cd_Defence_place_146 rfl ?_
      refine r_goto cd_Defence_place_149 ?_
      (unfold kpA; exact e9)
theorem lp_backs {s : Int} {H' : MH} (hs : s = 0 ∨ s = 1) (hB : DefB h) (hw : WF w) (ha : at_ w 16 ≠ -6) : ∀ (k : Nat) (v : Int) (tw pb : List Int), 0 ≤ v → v + k = 25 → PB pb → WF tw → (∀ x, setw tw (bk s) x = setw w (bk s) x) → (k = 0 → tw = setw w (bk s) 24) → (∀ x, Rn xs m_Defence_place 102 [vR 12, vR 1, vI s, vI (kp s), vI (bk s), vI (bsN (opn w s) 19 : Nat), vI 24, x] [] (dh h (setw w (bk s) 24) (bkA w s k v pb) li sl) none H') → Rn xs m_Defence_place 49 [vR 12, vR 1, vI s, vI (kp s), vI (bk s), vI (bsN (opn w s) 19 : Nat), vI 24, vI v] [] (dh h tw pb li sl) none H' := by
  intro k
  have hkb := bk_bd (s := s)
  induction k with
  | zero =>
    intro v tw pb v0 v1 hp htw hx hz kk
    have e9 := kk (vI v)
    unfold bkA at e9
    rw [← hz rfl] at e9
    refine r_iload cd_Defence_place_49 rfl ?_
    refine r_iload cd_Defence_place_51 rfl ?_
    refine r_icmp_gt cd_Defence_place_53 ⟨by omega, by omega⟩ ⟨by omega, by omega⟩ (fun c_53 => ?_) (fun c_53 => ?_)
    · skip
      exact e9
    · skip
      omega
  | succ k ih =>
    intro v tw pb v0 v1 hp htw hx hz kk
    have q1 := sp_slideTo (xs := xs) (v := v) (dh_t (tw := tw) (pb := pb) (li := li) (sl := sl) hB) htw hkb.1 hkb.2
    rw [dh_ts, hx] at q1
    have w2 : WF (setw w (bk s) v) := wf_slide hw hkb.1 hkb.2 v0 (by rw [wid_bk]; omega)
    have a2 : at_ (setw w (bk s) v) 16 ≠ -6 := by rw [setw_16 hw hkb.1 hkb.2]; exact ha
    have q2 := sp_shotsPast (xs := xs) (dh_t (tw := setw w (bk s) v) (pb := pb) (li := li) (sl := sl) hB) w2 a2 hkb.1 hkb.2
    have e1 : bAnd (bsN (opn w s) 19 : Nat) (bsN (pst (setw w (bk s) v) (bk s)) 19 : Nat) = ((bsN (bkP w s v) 19 : Nat) : Int) := by
      rw [bAnd_nat (Nat.lt_trans (bsN19 _) (by omega)) (Nat.lt_trans (bsN19 _) (by omega)), bsN_and]
      rfl
    have e9 := ih (v + 1) (setw w (bk s) v) (pb.set v.toNat (bsN (bkP w s v) 19 : Nat)) (by omega) (by omega) (PB_set hp v0 (by omega) (bsN19 _)) w2 (fun x => setw_setw) (fun z => by rw [show v = 24 by omega]) (fun x => kk x)
    refine r_iload cd_Defence_place_49 rfl ?_
    refine r_iload cd_Defence_place_51 rfl ?_
    refine r_icmp_gt cd_Defence_place_53 ⟨by omega, by omega⟩ ⟨by omega, by omega⟩ (fun c_53 => ?_) (fun c_53 => ?_)
    · skip
      omega
    · skip
      refine r_iload cd_Defence_place_56 rfl ?_
      refine r_aload_n cd_Defence_place_58 rfl ?_
      refine r_getfield cd_Defence_place_59 (dh_12 hB) rfl ?_
      refine r_arraylength (N := 41) cd_Defence_place_62 (dh_16 hB) (by rw [hp.1]; rfl) ?_
      refine r_icmp_ge cd_Defence_place_63 ⟨by omega, by omega⟩ ⟨by omega, by omega⟩ (fun c_63 => ?_) (fun c_63 => ?_)
      · skip
        omega
      · skip
        refine r_aload_n cd_Defence_place_66 rfl ?_
        refine r_getfield cd_Defence_place_67 (dh_12 hB) rfl ?_
        refine r_iload cd_Defence_place_70 rfl ?_
        refine r_iload cd_Defence_place_72 rfl ?_
        refine r_vz2 cd_Defence_place_74 rfl ck_Defence_place_Table_slideTo (Nat.le_of_ble_eq_true rfl) (dh_t hB).1 rfl q1 ?_
        skip
        refine r_aload_n cd_Defence_place_77 rfl ?_
        refine r_getfield cd_Defence_place_78 (dh_12 hB) rfl ?_
        refine r_iload cd_Defence_place_81 rfl ?_
        refine r_iload cd_Defence_place_83 rfl ?_
        refine r_aload_n cd_Defence_place_85 rfl ?_
        refine r_getfield cd_Defence_place_86 (dh_12 hB) rfl ?_
        refine r_iload cd_Defence_place_89 rfl ?_
        refine r_vv1 cd_Defence_place_91 rfl ck_Defence_place_Table_shotsPast (Nat.le_of_ble_eq_true rfl) (dh_t hB).1 rfl q2 ?_
        refine r_iand cd_Defence_place_94 ?_
        refine r_iastore (N := 41) cd_Defence_place_95 (dh_16 hB) (by rw [hp.1]; rfl) (by omega) (by omega) (by omega) ?_
        refine r_iinc8_7 cd_Defence_place_96 rfl ?_
        refine r_goto cd_Defence_place_99 ?_
        (rw [dh_s16, e1]; exact e9)
theorem sp_place (hB : DefB h) (hT : TabAt h 1 w) (hw : WF w) (ha : at_ w 16 ≠ -6) (hp : PB pb) (hD : h[12]? = some (dobj li sl)) (hP : h[16]? = some (.inr (0, pb))) {s : Int} (hs : s = 1 - sid (at_ w 16)) : ∃ wL : List Int, wL.length = 21 ∧ Sp xs m_Defence_place [vR 12, vR 1] h none (dh h wL (bkA w s 25 0 pb) (kpA (setw w (bk s) 24) (bkA w s 25 0 pb) s 41 0 20 sl).1 (kpA (setw w (bk s) 24) (bkA w s 25 0 pb) s 41 0 20 sl).2) := by
  obtain ⟨a1, a2, a3, a4⟩ := alive_bd hw ha
  have hsd := sid_bd a1 a2
  have hkb := bk_bd (s := s)
  have hs2 : s = 0 ∨ s = 1 := by omega
  have wb : WF (setw w (bk s) 24) := wf_slide hw hkb.1 hkb.2 (by omega) (by rw [wid_bk]; omega)
  have ab : at_ (setw w (bk s) 24) 16 ≠ -6 := by rw [setw_16 hw hkb.1 hkb.2]; exact ha
  obtain ⟨⟨wT, hT3, hwT⟩, -, -⟩ := id hB
  refine ⟨setw (setw w (bk s) 24) (kp s) 40, by rw [sw_len, sw_len]; exact hw.1, ?_⟩
  generalize hG : (dh h (setw (setw w (bk s) 24) (kp s) 40) (bkA w s 25 0 pb) (kpA (setw w (bk s) 24) (bkA w s 25 0 pb) s 41 0 20 sl).1 (kpA (setw w (bk s) 24) (bkA w s 25 0 pb) s 41 0 20 sl).2) = G
  have hp2 := bkA_PB (w := w) (s := s) 25 0 pb (by omega) (by omega) hp
  have t3 : ∀ x, Rn xs m_Defence_place 102 [vR 12, vR 1, vI s, vI (kp s), vI (bk s), vI (bsN (opn w s) 19 : Nat), vI 24, x] [] (dh h (setw w (bk s) 24) (bkA w s 25 0 pb) li sl) none G := by
    intro x
    have e9 := lp_keep (xs := xs) (opb := (bsN (opn w s) 19 : Nat)) hs2 hB hp2 wb ab 41 0 20 sl (setw w (bk s) 24) (by omega) (by omega) (by omega) (by omega) wb (fun x => rfl) (fun z => by omega)
    rw [hG, ← dh_s12 (li := li) (sl := sl)] at e9
    refine r_aload_n cd_Defence_place_102 rfl ?_
    refine r_bipush cd_Defence_place_103 ?_
    refine r_putfield cd_Defence_place_105 (dh_12 hB) (Nat.le_of_ble_eq_true rfl) rfl ?_
    refine r_iconst cd_Defence_place_108 ?_
    refine r_istore8_7 cd_Defence_place_109 rfl ?_
    exact e9
  have t2 := lp_backs (xs := xs) (li := li) (sl := sl) hs2 hB hw ha 25 0 w pb (by omega) (by omega) hp hw (fun x => rfl) (fun z => by omega) t3
  have q1 := sp_ballRod (xs := xs) (dh_t (tw := w) (pb := pb) (li := li) (sl := sl) hB)
  have q2 := sp_spo (xs := xs) hs2 (dh_12 (tw := w) (pb := pb) (li := li) (sl := sl) hB) (dh_t hB) hw ha
  have q3 := sp_Rods_lastSlide (xs := xs) (h := dh h w pb li sl) hkb.1 hkb.2
  rw [wid_bk] at q3
  have t1 : Rn xs m_Defence_place 8 [vR 12, vR 1, vU, vU, vU, vU, vU, vU] [] (dh h w pb li sl) none G := by
    subst hs
    refine r_iconst cd_Defence_place_8 ?_
    refine r_aload_n cd_Defence_place_9 rfl ?_
    refine r_getfield cd_Defence_place_10 (dh_12 hB) rfl ?_
    refine r_vv0 cd_Defence_place_13 rfl ck_Defence_place_Table_ballRod (Nat.le_of_ble_eq_true rfl) (dh_t hB).1 rfl q1 ?_
    refine r_cv1 cd_Defence_place_16 rfl ck_Defence_place_Rods_sideOf rfl (Nat.le_of_ble_eq_true rfl) (sp_sid a1 a2) ?_
    refine r_isub cd_Defence_place_19 ?_
    refine r_istoren8_2 cd_Defence_place_20 rfl ?_
    refine r_iload_n cd_Defence_place_21 rfl ?_
    refine r_cv1 cd_Defence_place_22 rfl ck_Defence_place_Rods_keeperOf rfl (Nat.le_of_ble_eq_true rfl) (sp_kp ⟨by omega, by omega⟩) ?_
    refine r_istoren8_3 cd_Defence_place_25 rfl ?_
    refine r_iload_n cd_Defence_place_26 rfl ?_
    refine r_cv1 cd_Defence_place_27 rfl ck_Defence_place_Rods_backsOf rfl (Nat.le_of_ble_eq_true rfl) (sp_bk ⟨by omega, by omega⟩) ?_
    refine r_istore8_4 cd_Defence_place_30 rfl ?_
    refine r_aload_n cd_Defence_place_32 rfl ?_
    refine r_iload_n cd_Defence_place_33 rfl ?_
    refine r_vv1 cd_Defence_place_34 rfl ck_Defence_place_Defence_shotsPastOthers (Nat.le_of_ble_eq_true rfl) (dh_12 hB) rfl q2 ?_
    refine r_istore8_5 cd_Defence_place_37 rfl ?_
    refine r_iload cd_Defence_place_39 rfl ?_
    refine r_cv1 cd_Defence_place_41 rfl ck_Defence_place_Rods_lastSlide rfl (Nat.le_of_ble_eq_true rfl) q3 ?_
    refine r_istore8_6 cd_Defence_place_44 rfl ?_
    refine r_iconst cd_Defence_place_46 ?_
    refine r_istore8_7 cd_Defence_place_47 rfl ?_
    exact t2
  refine en_Defence_place ?_
  refine r_aload_n cd_Defence_place_0 rfl ?_
  refine r_getfield cd_Defence_place_1 hD rfl ?_
  refine r_aload_n cd_Defence_place_4 rfl ?_
  refine r_vz1 cd_Defence_place_5 rfl ck_Defence_place_Table_copyFrom (Nat.le_of_ble_eq_true rfl) hT3.1 rfl (sp_copyFrom (by omega) hT3 hT hwT hw.1) ?_
  (rw [dh_0 hD hP]; exact t1)
end C50
