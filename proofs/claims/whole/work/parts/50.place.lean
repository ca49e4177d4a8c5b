-- Defence.place
section C50
variable {xs : List Int} {h : MH} {w tw pb : List Int} {li sl : Int}
def dh (h : MH) (tw pb : List Int) (li sl : Int) : MH := ((tset h 13 tw).set 16 (.inr (0, pb))).set 12 (dobj li sl)
def DefB (h : MH) : Prop := (∃ wT, TabAt h 13 wT) ∧ (∃ c, h[16]? = some c) ∧ (∃ c, h[12]? = some c)
theorem dh_t (hB : DefB h) : TabAt (dh h tw pb li sl) 13 tw := by
  obtain ⟨⟨wT, hT⟩, -, -⟩ := hB
  exact tab_sne (tab_sne (tab_tset hT) (by omega) (by omega) (by omega)) (by omega) (by omega) (by omega)
theorem dh_16 (hB : DefB h) : (dh h tw pb li sl)[16]? = some (.inr (0, pb)) := by
  obtain ⟨-, ⟨c, hc⟩, -⟩ := hB
  exact gs_ne (by omega) (gs_eq ((tset_ne (by omega) (by omega) (by omega)).trans hc))
theorem dh_12 (hB : DefB h) : (dh h tw pb li sl)[12]? = some (dobj li sl) := by
  obtain ⟨-, -, ⟨c, hc⟩⟩ := hB
  exact gs_eq (gs_ne (by omega) ((tset_ne (by omega) (by omega) (by omega)).trans hc))
theorem dh_ts {tw2 : List Int} : tset (dh h tw pb li sl) 13 tw2 = dh h tw2 pb li sl := by
  unfold dh tset
  apply List.ext_getElem?
  intro j
  simp only [List.getElem?_set, List.length_set]
  (repeat' split) <;> first | rfl | omega
theorem dh_s16 {pb2 : List Int} : (dh h tw pb li sl).set 16 (.inr (0, pb2)) = dh h tw pb2 li sl := by
  unfold dh
  rw [set_comm (by omega), List.set_set]
theorem dh_s12 {li2 sl2 : Int} : (dh h tw pb li sl).set 12 (dobj li2 sl2) = dh h tw pb li2 sl2 := by
  unfold dh
  rw [List.set_set]
theorem dh_0 {wT : List Int} (hD : h[12]? = some (dobj li sl)) (hP : h[16]? = some (.inr (0, pb))) : tset h 13 tw = dh h tw pb li sl := by
  unfold dh
  rw [set_same ((tset_ne (by omega) (by omega) (by omega)).trans hP), set_same ((tset_ne (by omega) (by omega) (by omega)).trans hD)]
def PB (pb : List Int) : Prop := pb.length = 41 ∧ ∀ j : Int, 0 ≤ j → j < 41 → 0 ≤ at_ pb j ∧ at_ pb j < 524288
theorem PB_set {v : Int} {x : Nat} (hb : PB pb) (h0 : 0 ≤ v) (h1 : v < 41) (hx : x < 524288) : PB (pb.set v.toNat (x : Int)) := by
  refine ⟨by rw [List.length_set]; exact hb.1, fun j j0 j1 => ?_⟩
  rw [az_set h0 (by rw [hb.1]; exact h1) j0]
  have := hb.2 j j0 j1
  split <;> omega
def bkP (w : List Int) (s v : Int) : Int → Bool := fun d => opn w s d && pst (setw w (bk s) v) (bk s) d
def bkA (w : List Int) (s : Int) : Nat → Int → List Int → List Int
  | 0, _, pb => pb
  | k + 1, v, pb => bkA w s k (v + 1) (pb.set v.toNat (bsN (bkP w s v) 19 : Nat))
theorem bkA_PB {s : Int} : ∀ (k : Nat) (v : Int) (pb : List Int), 0 ≤ v → v + k ≤ 41 → PB pb → PB (bkA w s k v pb)
  | 0, _, _, _, _, hb => hb
  | k + 1, v, pb, h0, h1, hb => by
    unfold bkA
    exact bkA_PB k (v + 1) _ (by omega) (by omega) (PB_set hb h0 (by omega) (bsN19 _))
def kpA (wb pb : List Int) (s : Int) : Nat → Int → Int → Int → Int × Int
  | 0, _, li, sl => (li, sl)
  | k + 1, v, li, sl => kpA wb pb s k (v + 1) (tkA pb (bsN (pst (setw wb (kp s) v) (kp s)) 19) v 25 0 li sl).1 (tkA pb (bsN (pst (setw wb (kp s) v) (kp s)) 19) v 25 0 li sl).2
theorem tkA_bd {pk : Nat} {v : Int} : ∀ (k : Nat) (j li sl : Int), 0 ≤ li → li ≤ 100 → 0 ≤ (tkA pb pk v k j li sl).1 ∧ (tkA pb pk v k j li sl).1 ≤ 100
  | 0, _, li, sl, h0, h1 => ⟨h0, h1⟩
  | k + 1, j, li, sl, h0, h1 => by
    have := bsm_bd ((at_ pb j).toNat &&& pk)
    unfold tkA
    split
    · exact tkA_bd k (j + 1) _ _ (by omega) (by omega)
    · exact tkA_bd k (j + 1) _ _ h0 h1
theorem wid_bk {s : Int} : wid (bk s) = 24 := by unfold bk; split <;> decide
theorem wid_kp {s : Int} : wid (kp s) = 40 := by unfold kp; split <;> decide
theorem bk_bd {s : Int} : 0 ≤ bk s ∧ bk s < 8 := by unfold bk; split <;> omega
theorem kp_bd {s : Int} : 0 ≤ kp s ∧ kp s < 8 := by unfold kp; split <;> omega
theorem setw_setw {i u v : Int} : setw (setw w i u) i v = setw w i v := by unfold setw; rw [List.set_set]
theorem setw_16 {i v : Int} (hw : WF w) (h0 : 0 ≤ i) (h1 : i < 8) : at_ (setw w i v) 16 = at_ w 16 := by rw [sw_at hw.1 h0 (by omega) (by omega), if_neg (by omega)]
theorem lp_keep {s opb : Int} {wb : List Int} (hs : s = 0 ∨ s = 1) (hB : DefB h) (hp : PB pb) (hw : WF wb) (ha : at_ wb 16 ≠ -6) : ∀ (k : Nat) (v li sl : Int) (tw : List Int), 0 ≤ v → v + k = 41 → 0 ≤ li → li ≤ 100 → WF tw → (∀ x, setw tw (kp s) x = setw wb (kp s) x) → (k = 0 → tw = setw wb (kp s) 40) → Rn xs m_Defence_place 111 [vR 12, vR 1, vI s, vI (kp s), vI (bk s), vI opb, vI 24, vI v] [] (dh h tw pb li sl) none (dh h (setw wb (kp s) 40) pb (kpA wb pb s k v li sl).1 (kpA wb pb s k v li sl).2) := by
  intro k
  have hkb := kp_bd (s := s)
  induction k with
  | zero =>
    intro v li sl tw v0 v1 i0 i1 htw hx hz
    have hlast := sp_Rods_lastSlide (xs := xs) (h := dh h tw pb li sl) hkb.1 hkb.2
    rw [wid_kp] at hlast
    refine r_iload cd_Defence_place_111 rfl ?_
    refine r_iload_n cd_Defence_place_113 rfl ?_
    refine r_cv1 cd_Defence_place_114 rfl ck_Defence_place_Rods_lastSlide rfl (Nat.le_of_ble_eq_true rfl) hlast ?_
    refine r_icmp_gt cd_Defence_place_117 ⟨by omega, by omega⟩ ⟨by omega, by omega⟩ (fun c_117 => ?_) (fun c_117 => ?_)
    · skip
      exact r_vret cd_Defence_place_152 rt_Defence_place (by (rw [hz rfl]; rfl))
    · skip
      omega
  | succ k ih =>
    intro v li sl tw v0 v1 i0 i1 htw hx hz
    have hlast := sp_Rods_lastSlide (xs := xs) (h := dh h tw pb li sl) hkb.1 hkb.2
    rw [wid_kp] at hlast
    have q1 := sp_slideTo (xs := xs) (v := v) (dh_t (tw := tw) (pb := pb) (li := li) (sl := sl) hB) htw hkb.1 hkb.2
    rw [dh_ts, hx] at q1
    have w2 : WF (setw wb (kp s) v) := wf_slide hw hkb.1 hkb.2 v0 (by rw [wid_kp]; omega)
    have a2 : at_ (setw wb (kp s) v) 16 ≠ -6 := by rw [setw_16 hw hkb.1 hkb.2]; exact ha
    have q2 := sp_shotsPast (xs := xs) (dh_t (tw := setw wb (kp s) v) (pb := pb) (li := li) (sl := sl) hB) w2 a2 hkb.1 hkb.2
    have q3 := sp_tryKeeper (xs := xs) (v := v) (lst := 24) hp.1 hp.2 (bsN19 (pst (setw wb (kp s) v) (kp s))) (by omega) (by omega) i0 i1 (dh_12 (tw := setw wb (kp s) v) (pb := pb) (li := li) (sl := sl) hB) (dh_16 hB)
    rw [dh_s12] at q3
    have tb := tkA_bd (pb := pb) (pk := bsN (pst (setw wb (kp s) v) (kp s)) 19) (v := v) 25 0 li sl i0 i1
    have e9 := ih (v + 1) (tkA pb (bsN (pst (setw wb (kp s) v) (kp s)) 19) v 25 0 li sl).1 (tkA pb (bsN (pst (setw wb (kp s) v) (kp s)) 19) v 25 0 li sl).2 (setw wb (kp s) v) (by omega) (by omega) tb.1 tb.2 w2 (fun x => setw_setw) (fun z => by rw [show v = 40 by omega])
    refine r_iload cd_Defence_place_111 rfl ?_
    refine r_iload_n cd_Defence_place_113 rfl ?_
    refine r_cv1 cd_Defence_place_114 rfl ck_Defence_place_Rods_lastSlide rfl (Nat.le_of_ble_eq_true rfl) hlast ?_
    refine r_icmp_gt cd_Defence_place_117 ⟨by omega, by omega⟩ ⟨by omega, by omega⟩ (fun c_117 => ?_) (fun c_117 => ?_)
    · skip
      omega
    · skip
      refine r_aload_n cd_Defence_place_120 rfl ?_
      refine r_getfield cd_Defence_place_121 (dh_12 hB) rfl ?_
      refine r_iload_n cd_Defence_place_124 rfl ?_
      refine r_iload cd_Defence_place_125 rfl ?_
      refine r_vz2 cd_Defence_place_127 rfl ck_Defence_place_Table_slideTo (Nat.le_of_ble_eq_true rfl) (dh_t hB).1 rfl q1 ?_
      refine r_aload_n cd_Defence_place_130 rfl ?_
      refine r_iload cd_Defence_place_131 rfl ?_
      refine r_aload_n cd_Defence_place_133 rfl ?_
      refine r_getfield cd_Defence_place_134 (dh_12 hB) rfl ?_
      refine r_iload_n cd_Defence_place_137 rfl ?_
      refine r_vv1 cd_Defence_place_138 rfl ck_Defence_place_Table_shotsPast (Nat.le_of_ble_eq_true rfl) (dh_t hB).1 rfl q2 ?_
      refine r_iload cd_Defence_place_141 rfl ?_
      refine r_vz3 cd_Defence_place_143 rfl ck_Defence_place_Defence_tryKeeper (Nat.le_of_ble_eq_true rfl) (dh_12 hB) rfl q3 ?_
      refine r_iinc8_7 cd_Defence_place_146 rfl ?_
      refine r_goto cd_Defence_place_149 ?_
      (unfold kpA; exact e9)
end C50
