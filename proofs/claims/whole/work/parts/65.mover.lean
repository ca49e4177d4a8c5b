-- the reference: passes over, the copy of the book
section C65
variable {xs : List Int} {h : MH} {v : List Int} {mn mc sm om ga mr ma ax : Int}
def nbA (f g p : Int) : Nat → Int → Int → Int → Int × Int
  | 0, _, b, o => (b, o)
  | k + 1, m, b, o => nbA f g p k (m + 1) (if zabs (f + m * g - p) < b then zabs (f + m * g - p) else b) (if zabs (f + m * g - p) < b then m else o)
theorem nb_ne (f g p : Int) : ∀ (k : Nat) (m n b o : Int), (b = if zabs (f + n * g - p) < 4 then zabs (f + n * g - p) else 4) → (b < 4 → o = n) → ((nbA f g p k m b o).1 = if zabs (f + neA f g p k m n * g - p) < 4 then zabs (f + neA f g p k m n * g - p) else 4) ∧ ((nbA f g p k m b o).1 < 4 → (nbA f g p k m b o).2 = neA f g p k m n)
  | 0, m, n, b, o, hb, ho => ⟨hb, ho⟩
  | k + 1, m, n, b, o, hb, ho => by
    unfold nbA neA
    by_cases z : zabs (f + m * g - p) < zabs (f + n * g - p)
    · rw [if_pos z]
      by_cases y : zabs (f + m * g - p) < b
      · rw [if_pos y, if_pos y]
        exact nb_ne f g p k (m + 1) m _ _ (by rw [if_pos (by split at hb <;> omega)]) (fun _ => rfl)
      · rw [if_neg y, if_neg y]
        exact nb_ne f g p k (m + 1) m _ _ (by rw [if_neg (by split at hb <;> omega)]; split at hb <;> omega) (fun q => by split at hb <;> omega)
    · rw [if_neg z]
      rw [if_neg (by split at hb <;> omega), if_neg (by split at hb <;> omega)]
      exact nb_ne f g p k (m + 1) n _ _ hb ho
theorem nb_0 {f g p o : Int} {k : Nat} : ((nbA f g p (k + 1) 0 4 o).1 = if zabs (f + neA f g p k 1 0 * g - p) < 4 then zabs (f + neA f g p k 1 0 * g - p) else 4) ∧ ((nbA f g p (k + 1) 0 4 o).1 < 4 → (nbA f g p (k + 1) 0 4 o).2 = neA f g p k 1 0) := by
  unfold nbA
  refine nb_ne f g p k 1 0 _ _ ?_ ?_
  · rfl
  · intro q
    split at q
    · next z => rw [if_pos z]
    · omega
theorem lp_M_near {r m to p : Int} (hw : WF v) (t0 : 0 ≤ to) (t1 : to < 8) (p0 : -200 ≤ p) (p1 : p ≤ 200) {X : MH} {a : Option MV} : ∀ (k : Nat) (i b om : Int) (h : MH) (x7 : MV), 0 ≤ i → i + k = men to → 0 ≤ b → b ≤ 1000 → h[40]? = some (mob mn mc sm om ga mr ma ax) → h[42]? = some (.inr (0, v)) → (∀ i' x, Rn xs m_M_overBy 111 [vR 40, vI r, vI m, vI to, vI p, vI (nbA (at_ v to) (gap to) p k i b om).1, vI i', x] [] (h.set 40 (mob mn mc sm (nbA (at_ v to) (gap to) p k i b om).2 ga mr ma ax)) a X) → Rn xs m_M_overBy 33 [vR 40, vI r, vI m, vI to, vI p, vI b, vI i, x7] [] h a X := by
  have hm := men_bd t0 t1
  intro k
  induction k with
  | zero =>
    intro i b om h x7 i0 i1 b0 b1 hO hN hk
    unfold nbA at hk
    rw [set_same hO] at hk
    refine r_iload cd_M_overBy_33 rfl ?_
    refine r_iload_n cd_M_overBy_35 rfl ?_
    refine r_cv1 cd_M_overBy_36 rfl ck_M_overBy_M_menOf rfl (Nat.le_of_ble_eq_true rfl) (sp_M_menOf t0 t1) ?_
    refine r_icmp_ge cd_M_overBy_39 ⟨by omega, by omega⟩ ⟨by omega, by omega⟩ (fun c_39 => ?_) (fun c_39 => ?_)
    · skip
      exact hk _ _
    · skip
      omega
  | succ k ih =>
    intro i b om h x7 i0 i1 b0 b1 hO hN hk
    have a1 := hw.2.1 to t0 t1
    have a2 := mg_bd t0 t1 i0 (by omega : i < men to)
    have a3 := wid_bd t0 t1
    have hp : pos v to i = at_ v to + i * gap to := rfl
    have hz := zabs_bd (x := at_ v to + i * gap to - p) (n := 1000) (by omega) (by omega)
    have t67 : ∀ x, x = zabs (at_ v to + i * gap to - p) → ∀ y, Rn xs m_M_overBy 67 [vR 40, vI r, vI m, vI to, vI p, vI b, vI i, y] [vI x] h a X := by
      intro x hx y
      subst hx
      by_cases q : zabs (at_ v to + i * gap to - p) < b
      · skip
        have e9 := fun y => ih (i + 1) (zabs (at_ v to + i * gap to - p)) i (h.set 40 (mob mn mc sm i ga mr ma ax)) y (by omega) (by omega) hz.1 hz.2 (gs_eq hO) (gs_ne (by omega) hN) (fun i' x => by
          have e8 := hk i' x
          unfold nbA at e8
          rw [if_pos q, if_pos q] at e8
          rw [List.set_set]
          exact e8)
        refine r_istore8_7 cd_M_overBy_67 rfl ?_
        refine r_aload_n cd_M_overBy_69 rfl ?_
        refine r_iload cd_M_overBy_70 rfl ?_
        refine r_iload cd_M_overBy_72 rfl ?_
        refine r_icmp_ge cd_M_overBy_74 ⟨by omega, by omega⟩ ⟨by omega, by omega⟩ (fun c_74 => ?_) (fun c_74 => ?_)
        · skip
          omega
        · skip
          refine r_iload cd_M_overBy_77 rfl ?_
          refine r_goto cd_M_overBy_79 ?_
          refine r_putfield cd_M_overBy_86 hO (Nat.le_of_ble_eq_true rfl) rfl ?_
          refine r_iload cd_M_overBy_89 rfl ?_
          refine r_iload cd_M_overBy_91 rfl ?_
          refine r_icmp_ge cd_M_overBy_93 ⟨by omega, by omega⟩ ⟨by omega, by omega⟩ (fun c_93 => ?_) (fun c_93 => ?_)
          · skip
            omega
          · skip
            refine r_iload cd_M_overBy_96 rfl ?_
            refine r_goto cd_M_overBy_98 ?_
            refine r_istore8_5 cd_M_overBy_103 rfl ?_
            refine r_iinc8_6 cd_M_overBy_105 rfl ?_
            refine r_goto cd_M_overBy_108 ?_
            exact e9 _
      · skip
        have e9 := fun y => ih (i + 1) b om h y (by omega) (by omega) b0 b1 hO hN (fun i' x => by
          have e8 := hk i' x
          unfold nbA at e8
          rw [if_neg q, if_neg q] at e8
          exact e8)
        refine r_istore8_7 cd_M_overBy_67 rfl ?_
        refine r_aload_n cd_M_overBy_69 rfl ?_
        refine r_iload cd_M_overBy_70 rfl ?_
        refine r_iload cd_M_overBy_72 rfl ?_
        refine r_icmp_ge cd_M_overBy_74 ⟨by omega, by omega⟩ ⟨by omega, by omega⟩ (fun c_74 => ?_) (fun c_74 => ?_)
        · skip
          refine r_aload_n cd_M_overBy_82 rfl ?_
          refine r_getfield cd_M_overBy_83 hO rfl ?_
          refine r_putfield cd_M_overBy_86 hO (Nat.le_of_ble_eq_true rfl) rfl ?_
          refine r_iload cd_M_overBy_89 rfl ?_
          refine r_iload cd_M_overBy_91 rfl ?_
          refine r_icmp_ge cd_M_overBy_93 ⟨by omega, by omega⟩ ⟨by omega, by omega⟩ (fun c_93 => ?_) (fun c_93 => ?_)
          · skip
            refine r_iload cd_M_overBy_101 rfl ?_
            refine r_istore8_5 cd_M_overBy_103 rfl ?_
            refine r_iinc8_6 cd_M_overBy_105 rfl ?_
            refine r_goto cd_M_overBy_108 ?_
            (show Rn xs m_M_overBy 33 _ [] (h.set 40 (mob mn mc sm om ga mr ma ax)) a X; rw [set_same hO]; exact e9 _)
          · skip
            omega
        · skip
          omega
    refine r_iload cd_M_overBy_33 rfl ?_
    refine r_iload_n cd_M_overBy_35 rfl ?_
    refine r_cv1 cd_M_overBy_36 rfl ck_M_overBy_M_menOf rfl (Nat.le_of_ble_eq_true rfl) (sp_M_menOf t0 t1) ?_
    refine r_icmp_ge cd_M_overBy_39 ⟨by omega, by omega⟩ ⟨by omega, by omega⟩ (fun c_39 => ?_) (fun c_39 => ?_)
    · skip
      omega
    · skip
      refine r_aload_n cd_M_overBy_42 rfl ?_
      refine r_iload_n cd_M_overBy_43 rfl ?_
      refine r_iload cd_M_overBy_44 rfl ?_
      refine r_vv2 cd_M_overBy_46 rfl ck_M_overBy_M_standsAt (Nat.le_of_ble_eq_true rfl) hO rfl (sp_M_standsAt hO hN hw t0 t1) ?_
      refine r_iload cd_M_overBy_49 rfl ?_
      refine r_isub cd_M_overBy_51 ?_
      refine r_istore8_7 cd_M_overBy_52 rfl ?_
      refine r_iload cd_M_overBy_54 rfl ?_
      refine r_if_ge cd_M_overBy_56 ⟨by omega, by omega⟩ (fun c_56 => ?_) (fun c_56 => ?_)
      · skip
        refine r_iload cd_M_overBy_65 rfl ?_
        exact t67 _ (by unfold zabs; first | (rw [if_pos (by omega)]; omega) | (rw [if_neg (by omega)]; omega)) _
      · skip
        refine r_iload cd_M_overBy_59 rfl ?_
        refine r_ineg cd_M_overBy_61 ?_
        refine r_goto cd_M_overBy_62 ?_
        exact t67 _ (by unfold zabs; first | (rw [if_pos (by omega)]; omega) | (rw [if_neg (by omega)]; omega)) _
theorem lp_M_way {r m to p e : Int} (hw : WF v) (h0 : 0 ≤ r) (h1 : r < 8) (t0 : 0 ≤ to) (t1 : to < 8) (hne : to ≠ r) (p0 : -200 ≤ p) (p1 : p ≤ 200) (hO : h[40]? = some (mob mn mc sm (e - 10 * to) ga mr ma ax)) (hN : h[42]? = some (.inr (0, v))) (he : 0 ≤ e - 10 * to ∧ e - 10 * to < 5) : ∀ (k : Nat) (i j b : Int), 1 ≤ i → i + k = 8 → i ≤ zabs (to - r) → j = r + i * stp r to → Rn xs m_M_overBy 138 [vR 40, vI r, vI m, vI to, vI p, vI b, vI (stp r to), vI j] [] h (some (vI (ovA v r to p (sid r) e k i / 10))) (h.set 40 (mob mn mc sm (ovA v r to p (sid r) e k i % 10) ga mr ma ax)) := by
  have hs := sid_bd h0 h1
  have hz := zabs_bd (x := to - r) (n := 7) (by omega) (by omega)
  intro k
  induction k with
  | zero =>
    intro i j b i0 i1 i2 hj
    omega
  | succ k ih =>
    intro i j b i0 i1 i2 hj
    have hb : (stp r to = 1 ∧ zabs (to - r) = to - r) ∨ (stp r to = -1 ∧ zabs (to - r) = r - to) := by
      unfold stp zabs
      split <;> split <;> omega
    have hjb : 0 ≤ j ∧ j < 8 := by rcases hb with ⟨z, y⟩ | ⟨z, y⟩ <;> rw [z] at hj <;> omega
    have hnx : i < zabs (to - r) ↔ j ≠ to := by rcases hb with ⟨z, y⟩ | ⟨z, y⟩ <;> rw [z] at hj <;> omega
    have hj1 : r + (i + 1) * stp r to = j + stp r to := by rw [Int.add_mul]; omega
    have hsj := sid_bd hjb.1 hjb.2
    have hcv := cov_bd v (r := j) (p := p) hjb.1 hjb.2
    have hmn := men_bd hjb.1 hjb.2
    have hst := stp_or r to
    unfold ovA
    rw [← hj]
    by_cases q1 : j = to
    · skip
      rw [if_pos q1]
      refine r_iload cd_M_overBy_138 rfl ?_
      refine r_iload_n cd_M_overBy_140 rfl ?_
      refine r_icmp_eq cd_M_overBy_141 ⟨by omega, by omega⟩ ⟨by omega, by omega⟩ (fun c_141 => ?_) (fun c_141 => ?_)
      · skip
        refine r_iload_n cd_M_overBy_192 rfl ?_
        exact r_iret cd_M_overBy_193 rt_M_overBy (by omega) (by (rw [show e % 10 = e - 10 * to by omega]; exact (set_same hO).symm))
      · skip
        exact absurd q1 c_141
    · skip
      rw [if_neg q1]
      by_cases q2 : (0 ≤ j ∧ j < 8 ∧ sid j = 1 - sid r) ∧ cov v j p ≠ -1
      · skip
        rw [if_pos q2]
        have hc : cvn v j p = cov v j p := by unfold cvn; rw [if_neg q2.2]
        refine r_iload cd_M_overBy_138 rfl ?_
        refine r_iload_n cd_M_overBy_140 rfl ?_
        refine r_icmp_eq cd_M_overBy_141 ⟨by omega, by omega⟩ ⟨by omega, by omega⟩ (fun c_141 => ?_) (fun c_141 => ?_)
        · skip
          exact absurd c_141 q1
        · skip
          refine r_iload cd_M_overBy_144 rfl ?_
          refine r_cv1 cd_M_overBy_146 rfl ck_M_overBy_M_sideOf rfl (Nat.le_of_ble_eq_true rfl) (sp_M_sideOf hjb.1 hjb.2) ?_
          refine r_iload_n cd_M_overBy_149 rfl ?_
          refine r_cv1 cd_M_overBy_150 rfl ck_M_overBy_M_sideOf rfl (Nat.le_of_ble_eq_true rfl) (sp_M_sideOf h0 h1) ?_
          refine r_icmp_eq cd_M_overBy_153 ⟨by omega, by omega⟩ ⟨by omega, by omega⟩ (fun c_153 => ?_) (fun c_153 => ?_)
          · skip
            omega
          · skip
            refine r_aload_n cd_M_overBy_156 rfl ?_
            refine r_iload cd_M_overBy_157 rfl ?_
            refine r_iload cd_M_overBy_159 rfl ?_
            refine r_vv2 cd_M_overBy_161 rfl ck_M_overBy_M_covers (Nat.le_of_ble_eq_true rfl) hO rfl (sp_M_covers hO hN hw hjb.1 hjb.2 p0 p1) ?_
            refine r_if_lt cd_M_overBy_164 ⟨by omega, by omega⟩ (fun c_164 => ?_) (fun c_164 => ?_)
            · skip
              omega
            · skip
              refine r_aload_n cd_M_overBy_167 rfl ?_
              refine r_aload_n cd_M_overBy_168 rfl ?_
              refine r_iload cd_M_overBy_169 rfl ?_
              refine r_iload cd_M_overBy_171 rfl ?_
              refine r_vv2 cd_M_overBy_173 rfl ck_M_overBy_M_covers (Nat.le_of_ble_eq_true rfl) hO rfl (sp_M_covers hO hN hw hjb.1 hjb.2 p0 p1) ?_
              refine r_putfield cd_M_overBy_176 hO (Nat.le_of_ble_eq_true rfl) rfl ?_
              refine r_iload cd_M_overBy_179 rfl ?_
              exact r_iret cd_M_overBy_181 rt_M_overBy (by omega) (by (rw [hc, show (10 * j + cov v j p) % 10 = cov v j p by omega]; rfl))
      · skip
        rw [if_neg q2]
        have hc : sid j = sid r ∨ cvn v j p = -6 := by
          by_cases y : cov v j p = -1
          · right; unfold cvn; rw [if_pos y]
          · left
            have : ¬ sid j = 1 - sid r := fun q => q2 ⟨⟨hjb.1, hjb.2, q⟩, y⟩
            omega
        have hcb : -6 ≤ cvn v j p ∧ cvn v j p ≤ 10 := by unfold cvn; split <;> omega
        have e9 := ih (i + 1) (j + stp r to) b (by omega) (by omega) (by have := hnx.mpr q1; omega) hj1.symm
        refine r_iload cd_M_overBy_138 rfl ?_
        refine r_iload_n cd_M_overBy_140 rfl ?_
        refine r_icmp_eq cd_M_overBy_141 ⟨by omega, by omega⟩ ⟨by omega, by omega⟩ (fun c_141 => ?_) (fun c_141 => ?_)
        · skip
          exact absurd c_141 q1
        · skip
          refine r_iload cd_M_overBy_144 rfl ?_
          refine r_cv1 cd_M_overBy_146 rfl ck_M_overBy_M_sideOf rfl (Nat.le_of_ble_eq_true rfl) (sp_M_sideOf hjb.1 hjb.2) ?_
          refine r_iload_n cd_M_overBy_149 rfl ?_
          refine r_cv1 cd_M_overBy_150 rfl ck_M_overBy_M_sideOf rfl (Nat.le_of_ble_eq_true rfl) (sp_M_sideOf h0 h1) ?_
          refine r_icmp_eq cd_M_overBy_153 ⟨by omega, by omega⟩ ⟨by omega, by omega⟩ (fun c_153 => ?_) (fun c_153 => ?_)
          · skip
            refine r_iload cd_M_overBy_182 rfl ?_
            refine r_iload cd_M_overBy_184 rfl ?_
            refine r_iadd cd_M_overBy_186 ?_
            refine r_istore8_7 cd_M_overBy_187 rfl ?_
            refine r_goto cd_M_overBy_189 ?_
            exact e9
          · skip
            refine r_aload_n cd_M_overBy_156 rfl ?_
            refine r_iload cd_M_overBy_157 rfl ?_
            refine r_iload cd_M_overBy_159 rfl ?_
            refine r_vv2 cd_M_overBy_161 rfl ck_M_overBy_M_covers (Nat.le_of_ble_eq_true rfl) hO rfl (sp_M_covers hO hN hw hjb.1 hjb.2 p0 p1) ?_
            refine r_if_lt cd_M_overBy_164 ⟨by omega, by omega⟩ (fun c_164 => ?_) (fun c_164 => ?_)
            · skip
              refine r_iload cd_M_overBy_182 rfl ?_
              refine r_iload cd_M_overBy_184 rfl ?_
              refine r_iadd cd_M_overBy_186 ?_
              refine r_istore8_7 cd_M_overBy_187 rfl ?_
              refine r_goto cd_M_overBy_189 ?_
              exact e9
            · skip
              omega
def ovn (w : List Int) (r m to : Int) : Int := if ovr w r m to = -1 then -6 else ovr w r m to / 10
theorem sp_M_overBy {r m to : Int} (hO : h[40]? = some (mob mn mc sm om ga mr ma ax)) (hN : h[42]? = some (.inr (0, v))) (hw : WF v) (h0 : 0 ≤ r) (h1 : r < 8) (m0 : 0 ≤ m) (m1 : m < men r) (t0 : 0 ≤ to) (t1 : to < 8) : ∃ om', (ovr v r m to ≠ -1 → om' = ovr v r m to % 10) ∧ Sp xs m_M_overBy [vR 40, vI r, vI m, vI to] h (some (vI (ovn v r m to))) (h.set 40 (mob mn mc sm om' ga mr ma ax)) := by
  have hs := sid_bd h0 h1
  have hst := sid_bd t0 t1
  have hp := pos_bd hw h0 h1 m0 m1
  have hmt := men_bd t0 t1
  by_cases q0 : to = r ∨ ¬ (0 ≤ to ∧ to < 8 ∧ sid to = sid r)
  · have e0 : ovr v r m to = -1 := by unfold ovr; rw [if_pos q0]
    refine ⟨om, fun z => absurd e0 z, ?_⟩
    rw [set_same hO]
    unfold ovn
    rw [if_pos e0]
    refine en_M_overBy ?_
    refine r_iload_n cd_M_overBy_0 rfl ?_
    refine r_iload_n cd_M_overBy_1 rfl ?_
    refine r_icmp_eq cd_M_overBy_2 ⟨by omega, by omega⟩ ⟨by omega, by omega⟩ (fun c_2 => ?_) (fun c_2 => ?_)
    · skip
      refine r_bipush cd_M_overBy_16 ?_
      exact r_iret cd_M_overBy_18 rt_M_overBy (by rfl) (by rfl)
    · skip
      refine r_iload_n cd_M_overBy_5 rfl ?_
      refine r_cv1 cd_M_overBy_6 rfl ck_M_overBy_M_sideOf rfl (Nat.le_of_ble_eq_true rfl) (sp_M_sideOf h0 h1) ?_
      refine r_iload_n cd_M_overBy_9 rfl ?_
      refine r_cv1 cd_M_overBy_10 rfl ck_M_overBy_M_sideOf rfl (Nat.le_of_ble_eq_true rfl) (sp_M_sideOf t0 t1) ?_
      refine r_icmp_eq cd_M_overBy_13 ⟨by omega, by omega⟩ ⟨by omega, by omega⟩ (fun c_13 => ?_) (fun c_13 => ?_)
      · skip
        omega
      · skip
        refine r_bipush cd_M_overBy_16 ?_
        exact r_iret cd_M_overBy_18 rt_M_overBy (by rfl) (by rfl)
  · have hb := nb_0 (f := at_ v to) (g := gap to) (p := pos v r m) (o := om) (k := (men to - 1).toNat)
    have hn := nea_bd v (r := to) (p := pos v r m) t0 t1
    have hpn := pos_bd hw t0 t1 hn.1 hn.2
    have hpe : at_ v to + nea v to (pos v r m) * gap to = pos v to (nea v to (pos v r m)) := rfl
    have hne : neA (at_ v to) (gap to) (pos v r m) (men to - 1).toNat 1 0 = nea v to (pos v r m) := rfl
    rw [hne, hpe, show (men to - 1).toNat + 1 = (men to).toNat by omega] at hb
    have e8 := fun (X : MH) (a : Option MV) (hk) (x7 : MV) => lp_M_near (xs := xs) (r := r) (m := m) (a := a) (X := X) hw t0 t1 (by omega : -200 ≤ pos v r m) (by omega) (men to).toNat 0 4 om h x7 (by omega) (by omega) (by omega) (by omega) hO hN hk
    by_cases q1 : 3 < zabs (pos v to (nea v to (pos v r m)) - pos v r m)
    · have e0 : ovr v r m to = -1 := by unfold ovr; rw [if_neg q0, if_pos q1]
      refine ⟨(nbA (at_ v to) (gap to) (pos v r m) (men to).toNat 0 4 om).2, fun z => absurd e0 z, ?_⟩
      unfold ovn
      rw [if_pos e0]
      rw [if_neg (by omega)] at hb
      have hk : ∀ (i' : Int) (x : MV), Rn xs m_M_overBy 111 [vR 40, vI r, vI m, vI to, vI (pos v r m), vI (nbA (at_ v to) (gap to) (pos v r m) (men to).toNat 0 4 om).1, vI i', x] [] (h.set 40 (mob mn mc sm (nbA (at_ v to) (gap to) (pos v r m) (men to).toNat 0 4 om).2 ga mr ma ax)) (some (vI (-6))) (h.set 40 (mob mn mc sm (nbA (at_ v to) (gap to) (pos v r m) (men to).toNat 0 4 om).2 ga mr ma ax)) := by
        intro i' x
        rw [hb.1]
        refine r_iload cd_M_overBy_111 rfl ?_
        refine r_iconst cd_M_overBy_113 ?_
        refine r_icmp_le cd_M_overBy_114 ⟨by decide, by decide⟩ ⟨by decide, by decide⟩ (fun c_114 => absurd c_114 (by decide)) (fun _ => ?_)
        refine r_bipush cd_M_overBy_117 ?_
        exact r_iret cd_M_overBy_119 rt_M_overBy (by rfl) (by rfl)
      have e7 := fun x7 => e8 _ _ hk x7
      refine en_M_overBy ?_
      refine r_iload_n cd_M_overBy_0 rfl ?_
      refine r_iload_n cd_M_overBy_1 rfl ?_
      refine r_icmp_eq cd_M_overBy_2 ⟨by omega, by omega⟩ ⟨by omega, by omega⟩ (fun c_2 => ?_) (fun c_2 => ?_)
      · skip
        omega
      · skip
        refine r_iload_n cd_M_overBy_5 rfl ?_
        refine r_cv1 cd_M_overBy_6 rfl ck_M_overBy_M_sideOf rfl (Nat.le_of_ble_eq_true rfl) (sp_M_sideOf h0 h1) ?_
        refine r_iload_n cd_M_overBy_9 rfl ?_
        refine r_cv1 cd_M_overBy_10 rfl ck_M_overBy_M_sideOf rfl (Nat.le_of_ble_eq_true rfl) (sp_M_sideOf t0 t1) ?_
        refine r_icmp_eq cd_M_overBy_13 ⟨by omega, by omega⟩ ⟨by omega, by omega⟩ (fun c_13 => ?_) (fun c_13 => ?_)
        · skip
          refine r_aload_n cd_M_overBy_19 rfl ?_
          refine r_iload_n cd_M_overBy_20 rfl ?_
          refine r_iload_n cd_M_overBy_21 rfl ?_
          refine r_vv2 cd_M_overBy_22 rfl ck_M_overBy_M_standsAt (Nat.le_of_ble_eq_true rfl) hO rfl (sp_M_standsAt hO hN hw h0 h1) ?_
          refine r_istore8_4 cd_M_overBy_25 rfl ?_
          refine r_iconst cd_M_overBy_27 ?_
          refine r_istore8_5 cd_M_overBy_28 rfl ?_
          refine r_iconst cd_M_overBy_30 ?_
          refine r_istore8_6 cd_M_overBy_31 rfl ?_
          exact e7 _
        · skip
          omega
    · have hzn := zabs_bd (x := pos v to (nea v to (pos v r m)) - pos v r m) (n := 1000) (by omega) (by omega)
      have e0 : ovr v r m to = ovA v r to (pos v r m) (sid r) (10 * to + nea v to (pos v r m)) 7 1 := by unfold ovr; rw [if_neg q0, if_neg q1]
      rw [if_pos (by omega)] at hb
      have hm2 := hb.2 (by omega)
      have hmE : manE (10 * to + nea v to (pos v r m)) := manE_of t0 t1 hn.1 hn.2
      have hov : manE (ovr v r m to) := by rw [e0]; exact ovA_bd hmE 7 1
      have hnn : ovr v r m to ≠ -1 := by have := hov.1; omega
      refine ⟨ovr v r m to % 10, fun _ => rfl, ?_⟩
      unfold ovn
      rw [if_neg hnn, e0]
      have hzt : 1 ≤ zabs (to - r) := by unfold zabs; split <;> omega
      have e6 := fun b j hj => lp_M_way (xs := xs) (h := h.set 40 (mob mn mc sm (nea v to (pos v r m)) ga mr ma ax)) (mn := mn) (mc := mc) (sm := sm) (ga := ga) (mr := mr) (ma := ma) (ax := ax) (m := m) (e := 10 * to + nea v to (pos v r m)) hw h0 h1 t0 t1 (by omega) (by omega : -200 ≤ pos v r m) (by omega) (by rw [show 10 * to + nea v to (pos v r m) - 10 * to = nea v to (pos v r m) by omega]; exact gs_eq hO) (gs_ne (by omega) hN) (by omega) 7 1 j b (by omega) (by omega) hzt hj
      simp only [List.set_set] at e6
      have hk : ∀ (i' : Int) (x : MV), Rn xs m_M_overBy 111 [vR 40, vI r, vI m, vI to, vI (pos v r m), vI (nbA (at_ v to) (gap to) (pos v r m) (men to).toNat 0 4 om).1, vI i', x] [] (h.set 40 (mob mn mc sm (nbA (at_ v to) (gap to) (pos v r m) (men to).toNat 0 4 om).2 ga mr ma ax)) (some (vI (ovA v r to (pos v r m) (sid r) (10 * to + nea v to (pos v r m)) 7 1 / 10))) (h.set 40 (mob mn mc sm (ovA v r to (pos v r m) (sid r) (10 * to + nea v to (pos v r m)) 7 1 % 10) ga mr ma ax)) := by
        intro i' x
        rw [hb.1, hm2]
        have t130 : ∀ y x', y = stp r to → Rn xs m_M_overBy 130 [vR 40, vI r, vI m, vI to, vI (pos v r m), vI (zabs (pos v to (nea v to (pos v r m)) - pos v r m)), vI i', x'] [vI y] (h.set 40 (mob mn mc sm (nea v to (pos v r m)) ga mr ma ax)) (some (vI (ovA v r to (pos v r m) (sid r) (10 * to + nea v to (pos v r m)) 7 1 / 10))) (h.set 40 (mob mn mc sm (ovA v r to (pos v r m) (sid r) (10 * to + nea v to (pos v r m)) 7 1 % 10) ga mr ma ax)) := by
          intro y x' hy
          subst hy
          refine r_istore8_6 cd_M_overBy_130 rfl ?_
          refine r_iload_n cd_M_overBy_132 rfl ?_
          refine r_iload cd_M_overBy_133 rfl ?_
          refine r_iadd cd_M_overBy_135 ?_
          refine r_istore8_7 cd_M_overBy_136 rfl ?_
          exact e6 _ _ (by omega)
        refine r_iload cd_M_overBy_111 rfl ?_
        refine r_iconst cd_M_overBy_113 ?_
        refine r_icmp_le cd_M_overBy_114 ⟨by omega, by omega⟩ ⟨by decide, by decide⟩ (fun c_114 => ?_) (fun c_114 => ?_)
        · skip
          refine r_iload_n cd_M_overBy_120 rfl ?_
          refine r_iload_n cd_M_overBy_121 rfl ?_
          refine r_icmp_le cd_M_overBy_122 ⟨by omega, by omega⟩ ⟨by omega, by omega⟩ (fun c_122 => ?_) (fun c_122 => ?_)
          · skip
            refine r_iconst cd_M_overBy_129 ?_
            exact t130 _ _ (by unfold stp; first | (rw [if_pos (by omega)]; done) | (rw [if_neg (by omega)]; done))
          · skip
            refine r_iconst cd_M_overBy_125 ?_
            refine r_goto cd_M_overBy_126 ?_
            exact t130 _ _ (by unfold stp; first | (rw [if_pos (by omega)]; done) | (rw [if_neg (by omega)]; done))
        · skip
          omega
      have e7 := fun x7 => e8 _ _ hk x7
      refine en_M_overBy ?_
      refine r_iload_n cd_M_overBy_0 rfl ?_
      refine r_iload_n cd_M_overBy_1 rfl ?_
      refine r_icmp_eq cd_M_overBy_2 ⟨by omega, by omega⟩ ⟨by omega, by omega⟩ (fun c_2 => ?_) (fun c_2 => ?_)
      · skip
        omega
      · skip
        refine r_iload_n cd_M_overBy_5 rfl ?_
        refine r_cv1 cd_M_overBy_6 rfl ck_M_overBy_M_sideOf rfl (Nat.le_of_ble_eq_true rfl) (sp_M_sideOf h0 h1) ?_
        refine r_iload_n cd_M_overBy_9 rfl ?_
        refine r_cv1 cd_M_overBy_10 rfl ck_M_overBy_M_sideOf rfl (Nat.le_of_ble_eq_true rfl) (sp_M_sideOf t0 t1) ?_
        refine r_icmp_eq cd_M_overBy_13 ⟨by omega, by omega⟩ ⟨by omega, by omega⟩ (fun c_13 => ?_) (fun c_13 => ?_)
        · skip
          refine r_aload_n cd_M_overBy_19 rfl ?_
          refine r_iload_n cd_M_overBy_20 rfl ?_
          refine r_iload_n cd_M_overBy_21 rfl ?_
          refine r_vv2 cd_M_overBy_22 rfl ck_M_overBy_M_standsAt (Nat.le_of_ble_eq_true rfl) hO rfl (sp_M_standsAt hO hN hw h0 h1) ?_
          refine r_istore8_4 cd_M_overBy_25 rfl ?_
          refine r_iconst cd_M_overBy_27 ?_
          refine r_istore8_5 cd_M_overBy_28 rfl ?_
          refine r_iconst cd_M_overBy_30 ?_
          refine r_istore8_6 cd_M_overBy_31 rfl ?_
          exact e7 _
        · skip
          omega
-- the copy of the book
theorem lp_M_asNow {b : List Int} (lb' : b.length = 21) : ∀ (k : Nat) (i : Int) (h : MH) (l : List Int), 0 ≤ i → i + k = 21 → h[40]? = some (mob mn mc sm om ga mr ma ax) → h[41]? = some (.inr (0, b)) → h[42]? = some (.inr (0, l)) → l.length = 21 → (∀ j : Int, 0 ≤ j → j < i → at_ l j = at_ b j) → Rn xs m_M_asNow 2 [vR 40, vI i] [] h none ((h.set 42 (.inr (0, b))).set 40 (mob mn mc sm om (-6) mr ma ax)) := by
  have lb : ((b.length : Nat) : Int) = 21 := by rw [lb']; rfl
  intro k
  induction k with
  | zero =>
    intro i h l i0 i1 hO hB hN lv' e
    have : l = b := ext_at lv' lb' (fun j j0 j1 => e j j0 (by omega))
    subst this
    refine r_iload_n cd_M_asNow_2 rfl ?_
    refine r_bipush cd_M_asNow_3 ?_
    refine r_icmp_ge cd_M_asNow_5 ⟨by omega, by omega⟩ ⟨by decide, by decide⟩ (fun c_5 => ?_) (fun c_5 => ?_)
    · skip
      refine r_aload_n cd_M_asNow_26 rfl ?_
      refine r_bipush cd_M_asNow_27 ?_
      refine r_putfield cd_M_asNow_29 hO (Nat.le_of_ble_eq_true rfl) rfl ?_
      exact r_vret cd_M_asNow_32 rt_M_asNow (by (rw [set_same hN]; rfl))
    · skip
      omega
  | succ k ih =>
    intro i h l i0 i1 hO hB hN lv' e
    have lv : ((l.length : Nat) : Int) = 21 := by rw [lv']; rfl
    have e9 := ih (i + 1) (h.set 42 (.inr (0, l.set i.toNat (at_ b i)))) (l.set i.toNat (at_ b i)) (by omega) (by omega) (gs_ne (by omega) hO) (gs_ne (by omega) hB) (gs_eq hN) (by rw [List.length_set, lv']) (cp_step i0 (by omega) e)
    rw [List.set_set] at e9
    refine r_iload_n cd_M_asNow_2 rfl ?_
    refine r_bipush cd_M_asNow_3 ?_
    refine r_icmp_ge cd_M_asNow_5 ⟨by omega, by omega⟩ ⟨by decide, by decide⟩ (fun c_5 => ?_) (fun c_5 => ?_)
    · skip
      omega
    · skip
      refine r_aload_n cd_M_asNow_8 rfl ?_
      refine r_getfield cd_M_asNow_9 hO rfl ?_
      refine r_iload_n cd_M_asNow_12 rfl ?_
      refine r_aload_n cd_M_asNow_13 rfl ?_
      refine r_getfield cd_M_asNow_14 hO rfl ?_
      refine r_iload_n cd_M_asNow_17 rfl ?_
      refine r_iaload (N := 21) cd_M_asNow_18 hB lb (by omega) (by omega) (by omega) ?_
      refine r_iastore (N := 21) cd_M_asNow_19 hN lv (by omega) (by omega) (by omega) ?_
      refine r_iinc2_1 cd_M_asNow_20 rfl ?_
      refine r_goto cd_M_asNow_23 ?_
      exact e9
theorem sp_M_asNow {b l : List Int} (hO : h[40]? = some (mob mn mc sm om ga mr ma ax)) (hB : h[41]? = some (.inr (0, b))) (hN : h[42]? = some (.inr (0, l))) (lb : b.length = 21) (ll : l.length = 21) : Sp xs m_M_asNow [vR 40] h none ((h.set 42 (.inr (0, b))).set 40 (mob mn mc sm om (-6) mr ma ax)) := by
  refine en_M_asNow ?_
  refine r_iconst cd_M_asNow_0 ?_
  refine r_istoren2_1 cd_M_asNow_1 rfl ?_
  exact lp_M_asNow lb 21 0 h l (by omega) (by omega) hO hB hN ll (fun j j0 j1 => by omega)
theorem sp_M_isOver (hO : h[40]? = some (mob mn mc sm om ga mr ma ax)) (hN : h[42]? = some (.inr (0, v))) (hw : WF v) : Sp xs m_M_isOver [vR 40] h (some (vI (bp (at_ v 18 = 10 ∨ at_ v 19 = 10)))) h := by
  have g5 := hw.2.2.2.2.1
  have g6 := hw.2.2.2.2.2.1
  refine en_M_isOver ?_
  refine r_aload_n cd_M_isOver_0 rfl ?_
  refine r_getfield cd_M_isOver_1 hO rfl ?_
  refine r_bipush cd_M_isOver_4 ?_
  refine r_iaload (N := 21) cd_M_isOver_6 hN (wlen hw) (by omega) (by omega) (by omega) ?_
  refine r_bipush cd_M_isOver_7 ?_
  refine r_icmp_eq cd_M_isOver_9 ⟨by omega, by omega⟩ ⟨by decide, by decide⟩ (fun c_9 => ?_) (fun c_9 => ?_)
  · skip
    refine r_iconst cd_M_isOver_24 ?_
    refine r_goto cd_M_isOver_25 ?_
    exact r_zret cd_M_isOver_29 rt_M_isOver (by first | (rw [bp_t (by omega)]; done) | (rw [bp_f (by omega)]; done)) (by rfl)
  · skip
    refine r_aload_n cd_M_isOver_12 rfl ?_
    refine r_getfield cd_M_isOver_13 hO rfl ?_
    refine r_bipush cd_M_isOver_16 ?_
    refine r_iaload (N := 21) cd_M_isOver_18 hN (wlen hw) (by omega) (by omega) (by omega) ?_
    refine r_bipush cd_M_isOver_19 ?_
    refine r_icmp_ne cd_M_isOver_21 ⟨by omega, by omega⟩ ⟨by decide, by decide⟩ (fun c_21 => ?_) (fun c_21 => ?_)
    · skip
      refine r_iconst cd_M_isOver_28 ?_
      exact r_zret cd_M_isOver_29 rt_M_isOver (by first | (rw [bp_t (by omega)]; done) | (rw [bp_f (by omega)]; done)) (by rfl)
    · skip
      refine r_iconst cd_M_isOver_24 ?_
      refine r_goto cd_M_isOver_25 ?_
      exact r_zret cd_M_isOver_29 rt_M_isOver (by first | (rw [bp_t (by omega)]; done) | (rw [bp_f (by omega)]; done)) (by rfl)
end C65
