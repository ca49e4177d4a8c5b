-- contracts of Table: readers and writers
section C32
variable {xs : List Int} {h : MH} {t : Nat} {w : List Int}
theorem tlen (hw : WF w) : (((w.take 8).length : Nat) : Int) = 8 := by rw [take_len hw]; rfl
theorem wlen (hw : WF w) : ((w.length : Nat) : Int) = 21 := by rw [hw.1]; rfl
def setw (w : List Int) (i v : Int) : List Int := w.set i.toNat v
theorem sw_len {i v : Int} : (setw w i v).length = w.length := by unfold setw; rw [List.length_set]
theorem sw_at {i j v : Int} (hl : w.length = 21) (hi : 0 ≤ i) (hi2 : i < 21) (hj : 0 ≤ j) : at_ (setw w i v) j = if i = j then v else at_ w j := by
  unfold setw
  exact az_set hi (by rw [hl]; exact hi2) hj
theorem sw_take {i v : Int} (hi : 8 ≤ i) : (setw w i v).take 8 = w.take 8 := by
  unfold setw
  rw [List.take_set]
  apply List.set_eq_of_length_le
  rw [List.length_take]
  omega
theorem sw_slide {i v : Int} (hl : w.length = 21) (hi : 0 ≤ i) (hi2 : i < 8) : tobj t (setw w i v) = tobj t w ∧ at_ (setw w i v) 18 = at_ w 18 ∧ at_ (setw w i v) 19 = at_ w 19 := by
  have key : ∀ j : Int, 8 ≤ j → at_ (setw w i v) j = at_ w j := fun j hj => by rw [sw_at hl hi (by omega) (by omega), if_neg (by omega)]
  refine ⟨?_, key 18 (by omega), key 19 (by omega)⟩
  unfold tobj hbits
  rw [key 8 (by omega), key 9 (by omega), key 10 (by omega), key 11 (by omega), key 12 (by omega), key 13 (by omega), key 14 (by omega), key 15 (by omega), key 16 (by omega), key 17 (by omega), key 20 (by omega)]
theorem sp_slideOf {r : Int} (hT : TabAt h t w) (hw : WF w) (h0 : 0 ≤ r) (h1 : r < 8) : Sp xs m_Table_slideOf [vR t, vI r] h (some (vI (at_ w r))) h := by
  refine en_Table_slideOf ?_
  refine r_iload_n cd_Table_slideOf_0 rfl ?_
  refine r_if_lt cd_Table_slideOf_1 ⟨by omega, by omega⟩ (fun c_1 => ?_) (fun c_1 => ?_)
  · skip
    refine r_bipush cd_Table_slideOf_22 ?_
    exact r_iret cd_Table_slideOf_24 rt_Table_slideOf (by first | omega | exact az_take h0 (by omega)) (by rfl)
  · skip
    refine r_iload_n cd_Table_slideOf_4 rfl ?_
    refine r_aload_n cd_Table_slideOf_5 rfl ?_
    refine r_getfield cd_Table_slideOf_6 hT.1 rfl ?_
    refine r_arraylength (N := 8) cd_Table_slideOf_9 hT.2.1 (tlen hw) ?_
    refine r_icmp_ge cd_Table_slideOf_10 ⟨by omega, by omega⟩ ⟨by omega, by omega⟩ (fun c_10 => ?_) (fun c_10 => ?_)
    · skip
      refine r_bipush cd_Table_slideOf_22 ?_
      exact r_iret cd_Table_slideOf_24 rt_Table_slideOf (by first | omega | exact az_take h0 (by omega)) (by rfl)
    · skip
      refine r_aload_n cd_Table_slideOf_13 rfl ?_
      refine r_getfield cd_Table_slideOf_14 hT.1 rfl ?_
      refine r_iload_n cd_Table_slideOf_17 rfl ?_
      refine r_iaload (N := 8) cd_Table_slideOf_18 hT.2.1 (tlen hw) (by omega) (by omega) (by omega) ?_
      refine r_goto cd_Table_slideOf_19 ?_
      exact r_iret cd_Table_slideOf_24 rt_Table_slideOf (by first | omega | exact az_take h0 (by omega)) (by rfl)
theorem sp_slideTo {r v : Int} (hT : TabAt h t w) (hw : WF w) (h0 : 0 ≤ r) (h1 : r < 8) : Sp xs m_Table_slideTo [vR t, vI r, vI v] h none (tset h t (setw w r v)) := by
  refine en_Table_slideTo ?_
  obtain ⟨k1, k2, k3⟩ := sw_slide (t := t) (v := v) hw.1 h0 h1
  refine r_iload_n cd_Table_slideTo_0 rfl ?_
  refine r_if_lt cd_Table_slideTo_1 ⟨by omega, by omega⟩ (fun c_1 => ?_) (fun c_1 => ?_)
  · skip
    exact r_vret cd_Table_slideTo_20 rt_Table_slideTo (by first | omega | (rw [← tset_s hT k1 k2 k3]; unfold setw; rw [List.take_set]))
  · skip
    refine r_iload_n cd_Table_slideTo_4 rfl ?_
    refine r_aload_n cd_Table_slideTo_5 rfl ?_
    refine r_getfield cd_Table_slideTo_6 hT.1 rfl ?_
    refine r_arraylength (N := 8) cd_Table_slideTo_9 hT.2.1 (tlen hw) ?_
    refine r_icmp_ge cd_Table_slideTo_10 ⟨by omega, by omega⟩ ⟨by omega, by omega⟩ (fun c_10 => ?_) (fun c_10 => ?_)
    · skip
      exact r_vret cd_Table_slideTo_20 rt_Table_slideTo (by first | omega | (rw [← tset_s hT k1 k2 k3]; unfold setw; rw [List.take_set]))
    · skip
      refine r_aload_n cd_Table_slideTo_13 rfl ?_
      refine r_getfield cd_Table_slideTo_14 hT.1 rfl ?_
      refine r_iload_n cd_Table_slideTo_17 rfl ?_
      refine r_iload_n cd_Table_slideTo_18 rfl ?_
      refine r_iastore (N := 8) cd_Table_slideTo_19 hT.2.1 (tlen hw) (by omega) (by omega) (by omega) ?_
      exact r_vret cd_Table_slideTo_20 rt_Table_slideTo (by first | omega | (rw [← tset_s hT k1 k2 k3]; unfold setw; rw [List.take_set]))
theorem sp_scoredBy {s : Int} (hT : TabAt h t w) (hs : s = 0 ∨ s = 1) : Sp xs m_Table_scoredBy [vR t, vI s] h (some (vI (at_ w (18 + s)))) h := by
  refine en_Table_scoredBy ?_
  refine r_iload_n cd_Table_scoredBy_0 rfl ?_
  refine r_if_lt cd_Table_scoredBy_1 ⟨by omega, by omega⟩ (fun c_1 => ?_) (fun c_1 => ?_)
  · skip
    refine r_bipush cd_Table_scoredBy_22 ?_
    exact r_iret cd_Table_scoredBy_24 rt_Table_scoredBy (by first | omega | (rcases hs with rfl | rfl <;> rfl)) (by rfl)
  · skip
    refine r_iload_n cd_Table_scoredBy_4 rfl ?_
    refine r_aload_n cd_Table_scoredBy_5 rfl ?_
    refine r_getfield cd_Table_scoredBy_6 hT.1 rfl ?_
    refine r_arraylength (N := 2) cd_Table_scoredBy_9 hT.2.2 rfl ?_
    refine r_icmp_ge cd_Table_scoredBy_10 ⟨by omega, by omega⟩ ⟨by omega, by omega⟩ (fun c_10 => ?_) (fun c_10 => ?_)
    · skip
      refine r_bipush cd_Table_scoredBy_22 ?_
      exact r_iret cd_Table_scoredBy_24 rt_Table_scoredBy (by first | omega | (rcases hs with rfl | rfl <;> rfl)) (by rfl)
    · skip
      refine r_aload_n cd_Table_scoredBy_13 rfl ?_
      refine r_getfield cd_Table_scoredBy_14 hT.1 rfl ?_
      refine r_iload_n cd_Table_scoredBy_17 rfl ?_
      refine r_iaload (N := 2) cd_Table_scoredBy_18 hT.2.2 rfl (by omega) (by omega) (by omega) ?_
      refine r_goto cd_Table_scoredBy_19 ?_
      exact r_iret cd_Table_scoredBy_24 rt_Table_scoredBy (by first | omega | (rcases hs with rfl | rfl <;> rfl)) (by rfl)
theorem sp_setScored {s v : Int} (hT : TabAt h t w) (hl : w.length = 21) (hs : s = 0 ∨ s = 1) : Sp xs m_Table_setScored [vR t, vI s, vI v] h none (tset h t (setw w (18 + s) v)) := by
  refine en_Table_setScored ?_
  have key : ∀ j : Int, 0 ≤ j → j ≠ 18 + s → at_ (setw w (18 + s) v) j = at_ w j := fun j hj hn => by rw [sw_at hl (by omega) (by omega) hj, if_neg (by omega)]
  have kk : at_ (setw w (18 + s) v) (18 + s) = v := by rw [sw_at hl (by omega) (by omega) (by omega), if_pos rfl]
  have k1 : tobj t (setw w (18 + s) v) = tobj t w := by
    unfold tobj hbits
    rw [key 8 (by omega) (by omega), key 9 (by omega) (by omega), key 10 (by omega) (by omega), key 11 (by omega) (by omega), key 12 (by omega) (by omega), key 13 (by omega) (by omega), key 14 (by omega) (by omega), key 15 (by omega) (by omega), key 16 (by omega) (by omega), key 17 (by omega) (by omega), key 20 (by omega) (by omega)]
  have k2 : [at_ w 18, at_ w 19].set s.toNat v = [at_ (setw w (18 + s) v) 18, at_ (setw w (18 + s) v) 19] := by
    rcases hs with rfl | rfl
    · rw [show (18 : Int) + 0 = 18 by rfl] at key kk
      rw [show (18 : Int) + 0 = 18 by rfl, kk, key 19 (by omega) (by omega)]
      rfl
    · rw [show (18 : Int) + 1 = 19 by rfl] at key kk
      rw [show (18 : Int) + 1 = 19 by rfl, kk, key 18 (by omega) (by omega)]
      rfl
  refine r_iload_n cd_Table_setScored_0 rfl ?_
  refine r_if_lt cd_Table_setScored_1 ⟨by omega, by omega⟩ (fun c_1 => ?_) (fun c_1 => ?_)
  · skip
    exact r_vret cd_Table_setScored_20 rt_Table_setScored (by first | omega | (rw [← tset_c hT k1 (sw_take (by omega)), k2]))
  · skip
    refine r_iload_n cd_Table_setScored_4 rfl ?_
    refine r_aload_n cd_Table_setScored_5 rfl ?_
    refine r_getfield cd_Table_setScored_6 hT.1 rfl ?_
    refine r_arraylength (N := 2) cd_Table_setScored_9 hT.2.2 rfl ?_
    refine r_icmp_ge cd_Table_setScored_10 ⟨by omega, by omega⟩ ⟨by omega, by omega⟩ (fun c_10 => ?_) (fun c_10 => ?_)
    · skip
      exact r_vret cd_Table_setScored_20 rt_Table_setScored (by first | omega | (rw [← tset_c hT k1 (sw_take (by omega)), k2]))
    · skip
      refine r_aload_n cd_Table_setScored_13 rfl ?_
      refine r_getfield cd_Table_setScored_14 hT.1 rfl ?_
      refine r_iload_n cd_Table_setScored_17 rfl ?_
      refine r_iload_n cd_Table_setScored_18 rfl ?_
      refine r_iastore (N := 2) cd_Table_setScored_19 hT.2.2 rfl (by omega) (by omega) (by omega) ?_
      exact r_vret cd_Table_setScored_20 rt_Table_setScored (by first | omega | (rw [← tset_c hT k1 (sw_take (by omega)), k2]))
theorem sp_scoredInAll (hT : TabAt h t w) : Sp xs m_Table_scoredInAll [vR t] h (some (vI (at_ w 18 + at_ w 19))) h := by
  refine en_Table_scoredInAll ?_
  refine r_aload_n cd_Table_scoredInAll_0 rfl ?_
  refine r_iconst cd_Table_scoredInAll_1 ?_
  refine r_vv1 cd_Table_scoredInAll_2 rfl ck_Table_scoredInAll_Table_scoredBy (Nat.le_of_ble_eq_true rfl) hT.1 rfl (sp_scoredBy hT (Or.inl rfl)) ?_
  refine r_aload_n cd_Table_scoredInAll_5 rfl ?_
  refine r_iconst cd_Table_scoredInAll_6 ?_
  refine r_vv1 cd_Table_scoredInAll_7 rfl ck_Table_scoredInAll_Table_scoredBy (Nat.le_of_ble_eq_true rfl) hT.1 rfl (sp_scoredBy hT (Or.inr rfl)) ?_
  refine r_iadd cd_Table_scoredInAll_10 ?_
  exact r_iret cd_Table_scoredInAll_11 rt_Table_scoredInAll (by first | rfl | omega | (split <;> first | rfl | omega)) (by rfl)
-- the bits of the rods that are held
theorem hb_bd (hw : WF w) : 0 ≤ hbits w ∧ hbits w < 256 := by
  have b := hw.2.2.1
  have b0 := b 0 (by omega) (by omega)
  have b1 := b 1 (by omega) (by omega)
  have b2 := b 2 (by omega) (by omega)
  have b3 := b 3 (by omega) (by omega)
  have b4 := b 4 (by omega) (by omega)
  have b5 := b 5 (by omega) (by omega)
  have b6 := b 6 (by omega) (by omega)
  have b7 := b 7 (by omega) (by omega)
  simp only [Int.reduceAdd] at b0 b1 b2 b3 b4 b5 b6 b7
  unfold hbits
  omega
def p2 (r : Int) : Int := at_ [1, 2, 4, 8, 16, 32, 64, 128] r
theorem hb_divK {a0 a1 a2 a3 a4 a5 a6 a7 : Int} (b0 : a0 = 0 ∨ a0 = 1) (b1 : a1 = 0 ∨ a1 = 1) (b2 : a2 = 0 ∨ a2 = 1) (b3 : a3 = 0 ∨ a3 = 1) (b4 : a4 = 0 ∨ a4 = 1) (b5 : a5 = 0 ∨ a5 = 1) (b6 : a6 = 0 ∨ a6 = 1) (b7 : a7 = 0 ∨ a7 = 1) {n : Int} (hn : n = a0 + 2 * a1 + 4 * a2 + 8 * a3 + 16 * a4 + 32 * a5 + 64 * a6 + 128 * a7) :
    n / 1 % 2 = a0 ∧ n / 2 % 2 = a1 ∧ n / 4 % 2 = a2 ∧ n / 8 % 2 = a3 ∧ n / 16 % 2 = a4 ∧ n / 32 % 2 = a5 ∧ n / 64 % 2 = a6 ∧ n / 128 % 2 = a7 := by
  refine ⟨?_, ?_, ?_, ?_, ?_, ?_, ?_, ?_⟩
  · rw [Int.ediv_one]; omega
  all_goals omega
theorem hb_div (hw : WF w) {r : Int} (h0 : 0 ≤ r) (h1 : r < 8) : hbits w / p2 r % 2 = at_ w (8 + r) := by
  have b := hw.2.2.1
  have k := hb_divK (b 0 (by omega) (by omega)) (b 1 (by omega) (by omega)) (b 2 (by omega) (by omega)) (b 3 (by omega) (by omega)) (b 4 (by omega) (by omega)) (b 5 (by omega) (by omega)) (b 6 (by omega) (by omega)) (b 7 (by omega) (by omega)) (n := hbits w) rfl
  rcases rod8 h0 h1 with rfl | rfl | rfl | rfl | rfl | rfl | rfl | rfl
  · exact k.1
  · exact k.2.1
  · exact k.2.2.1
  · exact k.2.2.2.1
  · exact k.2.2.2.2.1
  · exact k.2.2.2.2.2.1
  · exact k.2.2.2.2.2.2.1
  · exact k.2.2.2.2.2.2.2
theorem bit_k : ∀ n : Nat, n < 256 → ∀ r : Nat, r < 8 → bAnd (bShr (n : Int) (r : Int)) 1 = (n : Int) / p2 r % 2 ∧ bOr (n : Int) (bShl 1 (r : Int)) = (n : Int) + (if (n : Int) / p2 r % 2 = 0 then p2 r else 0) ∧ bAnd (n : Int) (bXor (bShl 1 (r : Int)) (-1)) = (n : Int) - (if (n : Int) / p2 r % 2 = 0 then 0 else p2 r) := by decide +kernel
theorem bit_z (hw : WF w) {r : Int} (h0 : 0 ≤ r) (h1 : r < 8) : bAnd (bShr (hbits w) r) 1 = at_ w (8 + r) ∧ bOr (hbits w) (bShl 1 r) = hbits w + (if at_ w (8 + r) = 0 then p2 r else 0) ∧ bAnd (hbits w) (bXor (bShl 1 r) (-1)) = hbits w - (if at_ w (8 + r) = 0 then 0 else p2 r) := by
  have hb := hb_bd hw
  have hd := hb_div hw h0 h1
  obtain ⟨n, hn⟩ := Int.eq_ofNat_of_zero_le hb.1
  obtain ⟨k, rfl⟩ := Int.eq_ofNat_of_zero_le h0
  rw [← hd, hn]
  exact bit_k n (by omega) k (by omega)
theorem hb_set (hw : WF w) {r v : Int} (h0 : 0 ≤ r) (h1 : r < 8) : hbits (setw w (8 + r) v) = hbits w + p2 r * (v - at_ w (8 + r)) := by
  have key : ∀ j : Int, 0 ≤ j → at_ (setw w (8 + r) v) j = if 8 + r = j then v else at_ w j := fun j hj => sw_at hw.1 (by omega) (by omega) hj
  unfold hbits
  rw [key 8 (by omega), key 9 (by omega), key 10 (by omega), key 11 (by omega), key 12 (by omega), key 13 (by omega), key 14 (by omega), key 15 (by omega)]
  rcases rod8 h0 h1 with rfl | rfl | rfl | rfl | rfl | rfl | rfl | rfl <;> simp [p2] <;> omega
theorem tobj_hold (hw : WF w) {r v : Int} (h0 : 0 ≤ r) (h1 : r < 8) : tobj t (setw w (8 + r) v) = .inl (6, [vR (t + 1), vR (t + 2), vI (hbits w + p2 r * (v - at_ w (8 + r))), vI (at_ w 16), vI (at_ w 17), vI (at_ w 20)]) ∧ at_ (setw w (8 + r) v) 18 = at_ w 18 ∧ at_ (setw w (8 + r) v) 19 = at_ w 19 := by
  have key : ∀ j : Int, 16 ≤ j → at_ (setw w (8 + r) v) j = at_ w j := fun j hj => by rw [sw_at hw.1 (by omega) (by omega) (by omega), if_neg (by omega)]
  refine ⟨?_, key 18 (by omega), key 19 (by omega)⟩
  unfold tobj
  rw [hb_set hw h0 h1, key 16 (by omega), key 17 (by omega), key 20 (by omega)]
theorem sp_isHeld {r : Int} (hT : TabAt h t w) (hw : WF w) (h0 : 0 ≤ r) (h1 : r < 8) : Sp xs m_Table_isHeld [vR t, vI r] h (some (vI (bp (at_ w (8 + r) = 1)))) h := by
  refine en_Table_isHeld ?_
  obtain ⟨z1, -, -⟩ := bit_z hw h0 h1
  have z2 := hw.2.2.1 r h0 h1
  refine r_iload_n cd_Table_isHeld_0 rfl ?_
  refine r_cv1 cd_Table_isHeld_1 rfl ck_Table_isHeld_Rods_isRod rfl (Nat.le_of_ble_eq_true rfl) (sp_Rods_isRod (in_rod h0 h1)) ?_
  refine r_ifeq_p cd_Table_isHeld_4 (fun c_4 => ?_) (fun c_4 => ?_)
  · skip
    refine r_iconst cd_Table_isHeld_23 ?_
    exact r_zret cd_Table_isHeld_24 rt_Table_isHeld (by first | (exact absurd ⟨h0, h1⟩ c_4) | (rw [z1] at c_16; first | (rw [bp_t c_16]; done) | (rw [bp_f c_16]; done))) (by rfl)
  · skip
    refine r_aload_n cd_Table_isHeld_7 rfl ?_
    refine r_getfield cd_Table_isHeld_8 hT.1 rfl ?_
    refine r_iload_n cd_Table_isHeld_11 rfl ?_
    refine r_ishr cd_Table_isHeld_12 ?_
    refine r_iconst cd_Table_isHeld_13 ?_
    refine r_iand cd_Table_isHeld_14 ?_
    refine r_iconst cd_Table_isHeld_15 ?_
    refine r_icmp_ne cd_Table_isHeld_16 ⟨by rw [z1]; omega, by rw [z1]; omega⟩ ⟨by decide, by decide⟩ (fun c_16 => ?_) (fun c_16 => ?_)
    · skip
      refine r_iconst cd_Table_isHeld_23 ?_
      exact r_zret cd_Table_isHeld_24 rt_Table_isHeld (by first | (exact absurd ⟨h0, h1⟩ c_4) | (rw [z1] at c_16; first | (rw [bp_t c_16]; done) | (rw [bp_f c_16]; done))) (by rfl)
    · skip
      refine r_iconst cd_Table_isHeld_19 ?_
      refine r_goto cd_Table_isHeld_20 ?_
      exact r_zret cd_Table_isHeld_24 rt_Table_isHeld (by first | (exact absurd ⟨h0, h1⟩ c_4) | (rw [z1] at c_16; first | (rw [bp_t c_16]; done) | (rw [bp_f c_16]; done))) (by rfl)
def hcA (w : List Int) (s but : Int) : Nat → Int → Int
  | 0, _ => 0
  | k + 1, r => (if sid r = s ∧ r ≠ but then at_ w (8 + r) else 0) + hcA w s but k (r + 1)
def hcn (w : List Int) (s but : Int) : Int := hcA w s but 8 0
theorem hcA_bd (hw : WF w) (s but : Int) : ∀ (k : Nat) (r : Int), 0 ≤ r → r + k ≤ 8 → 0 ≤ hcA w s but k r ∧ hcA w s but k r ≤ k
  | 0, r, _, _ => ⟨Int.le_refl _, Int.le_refl _⟩
  | k + 1, r, h0, h1 => by
    have ih := hcA_bd hw s but k (r + 1) (by omega) (by omega)
    have b := hw.2.2.1 r h0 (by omega)
    unfold hcA
    split <;> omega
theorem lp_heldBy {s : Int} (hT : TabAt h t w) (hw : WF w) (hs : inR s) : ∀ (k : Nat) (r n : Int), 0 ≤ r → r + k = 8 → 0 ≤ n → n ≤ r → Rn xs m_Table_heldBy 4 [vR t, vI s, vI n, vI r] [] h (some (vI (n + hcA w s (-1) k r))) h := by
  intro k
  induction k with
  | zero =>
    intro r n h0 h1 h2 h3
    refine r_iload_n cd_Table_heldBy_4 rfl ?_
    refine r_bipush cd_Table_heldBy_5 ?_
    refine r_icmp_ge cd_Table_heldBy_7 ⟨by omega, by omega⟩ ⟨by decide, by decide⟩ (fun c_7 => ?_) (fun c_7 => ?_)
    · skip
      refine r_iload_n cd_Table_heldBy_35 rfl ?_
      exact r_iret cd_Table_heldBy_36 rt_Table_heldBy (by unfold hcA; omega) (by rfl)
    · skip
      omega
  | succ k ih =>
    intro r n h0 h1 h2 h3
    have hsd := sid_bd h0 (by omega : r < 8)
    obtain ⟨hs1, hs2⟩ := hs
    have hb := hw.2.2.1 r h0 (by omega)
    refine r_iload_n cd_Table_heldBy_4 rfl ?_
    refine r_bipush cd_Table_heldBy_5 ?_
    refine r_icmp_ge cd_Table_heldBy_7 ⟨by omega, by omega⟩ ⟨by decide, by decide⟩ (fun c_7 => ?_) (fun c_7 => ?_)
    · skip
      omega
    · skip
      refine r_iload_n cd_Table_heldBy_10 rfl ?_
      refine r_cv1 cd_Table_heldBy_11 rfl ck_Table_heldBy_Rods_sideOf rfl (Nat.le_of_ble_eq_true rfl) (sp_sid h0 (by omega)) ?_
      refine r_iload_n cd_Table_heldBy_14 rfl ?_
      refine r_icmp_ne cd_Table_heldBy_15 ⟨by omega, by omega⟩ ⟨by omega, by omega⟩ (fun c_15 => ?_) (fun c_15 => ?_)
      · skip
        refine r_iinc4_3 cd_Table_heldBy_29 rfl ?_
        refine r_goto cd_Table_heldBy_32 ?_
        first | (have e9 := ih (r + 1) (n + 1) (by omega) (by omega) (by omega) (by omega); rw [show n + 1 + hcA w s (-1) k (r + 1) = n + hcA w s (-1) (k + 1) r by (conv => rhs; unfold hcA); rw [if_pos ⟨by omega, by omega⟩]; omega] at e9; exact e9) | (have e9 := ih (r + 1) n (by omega) (by omega) (by omega) (by omega); rw [show n + hcA w s (-1) k (r + 1) = n + hcA w s (-1) (k + 1) r by (conv => rhs; unfold hcA); split <;> omega] at e9; exact e9)
      · skip
        refine r_aload_n cd_Table_heldBy_18 rfl ?_
        refine r_iload_n cd_Table_heldBy_19 rfl ?_
        refine r_vv1 cd_Table_heldBy_20 rfl ck_Table_heldBy_Table_isHeld (Nat.le_of_ble_eq_true rfl) hT.1 rfl (sp_isHeld hT hw h0 (by omega)) ?_
        refine r_ifeq_p cd_Table_heldBy_23 (fun c_23 => ?_) (fun c_23 => ?_)
        · skip
          refine r_iinc4_3 cd_Table_heldBy_29 rfl ?_
          refine r_goto cd_Table_heldBy_32 ?_
          first | (have e9 := ih (r + 1) (n + 1) (by omega) (by omega) (by omega) (by omega); rw [show n + 1 + hcA w s (-1) k (r + 1) = n + hcA w s (-1) (k + 1) r by (conv => rhs; unfold hcA); rw [if_pos ⟨by omega, by omega⟩]; omega] at e9; exact e9) | (have e9 := ih (r + 1) n (by omega) (by omega) (by omega) (by omega); rw [show n + hcA w s (-1) k (r + 1) = n + hcA w s (-1) (k + 1) r by (conv => rhs; unfold hcA); split <;> omega] at e9; exact e9)
        · skip
          refine r_iinc4_2 cd_Table_heldBy_26 rfl ?_
          refine r_iinc4_3 cd_Table_heldBy_29 rfl ?_
          refine r_goto cd_Table_heldBy_32 ?_
          first | (have e9 := ih (r + 1) (n + 1) (by omega) (by omega) (by omega) (by omega); rw [show n + 1 + hcA w s (-1) k (r + 1) = n + hcA w s (-1) (k + 1) r by (conv => rhs; unfold hcA); rw [if_pos ⟨by omega, by omega⟩]; omega] at e9; exact e9) | (have e9 := ih (r + 1) n (by omega) (by omega) (by omega) (by omega); rw [show n + hcA w s (-1) k (r + 1) = n + hcA w s (-1) (k + 1) r by (conv => rhs; unfold hcA); split <;> omega] at e9; exact e9)
theorem sp_heldBy {s : Int} (hT : TabAt h t w) (hw : WF w) (hs : inR s) : Sp xs m_Table_heldBy [vR t, vI s] h (some (vI (hcn w s (-1)))) h := by
  refine en_Table_heldBy ?_
  refine r_iconst cd_Table_heldBy_0 ?_
  refine r_istoren4_2 cd_Table_heldBy_1 rfl ?_
  refine r_iconst cd_Table_heldBy_2 ?_
  refine r_istoren4_3 cd_Table_heldBy_3 rfl ?_
  (have e9 := lp_heldBy (xs := xs) hT hw hs 8 0 0 (by omega) (by omega) (by omega) (by omega); rw [Int.zero_add] at e9; exact e9)
theorem sp_setHeld {r v : Int} (hT : TabAt h t w) (hw : WF w) (h0 : 0 ≤ r) (h1 : r < 8) (hv : v = 0 ∨ v = 1) : Sp xs m_Table_setHeld [vR t, vI r, vI v] h none (tset h t (setw w (8 + r) v)) := by
  refine en_Table_setHeld ?_
  obtain ⟨-, z1, z2⟩ := bit_z hw h0 h1
  have z3 := hw.2.2.1 r h0 h1
  obtain ⟨k1, k2, k3⟩ := tobj_hold (t := t) (v := v) hw h0 h1
  have hh := tset_o hT (sw_take (w := w) (i := 8 + r) (v := v) (by omega)) k2 k3
  rw [k1] at hh
  have e1 : v ≠ 0 → bOr (hbits w) (bShl 1 r) = hbits w + p2 r * (v - at_ w (8 + r)) := by
    intro hn
    rw [z1]
    rcases z3 with z3 | z3 <;> rcases hv with rfl | rfl <;> rw [z3] <;> simp at hn ⊢
  have e0 : v = 0 → bAnd (hbits w) (bXor (bShl 1 r) (-1)) = hbits w + p2 r * (v - at_ w (8 + r)) := by
    intro hn
    rw [z2, hn]
    rcases z3 with z3 | z3 <;> rw [z3] <;> simp <;> omega
  refine r_iload_n cd_Table_setHeld_0 rfl ?_
  refine r_cv1 cd_Table_setHeld_1 rfl ck_Table_setHeld_Rods_isRod rfl (Nat.le_of_ble_eq_true rfl) (sp_Rods_isRod (in_rod h0 h1)) ?_
  refine r_ifne_p cd_Table_setHeld_4 (fun c_4 => ?_) (fun c_4 => ?_)
  · skip
    refine r_aload_n cd_Table_setHeld_8 rfl ?_
    refine r_iload_n cd_Table_setHeld_9 rfl ?_
    refine r_if_eq cd_Table_setHeld_10 ⟨by omega, by omega⟩ (fun c_10 => ?_) (fun c_10 => ?_)
    · skip
      refine r_aload_n cd_Table_setHeld_24 rfl ?_
      refine r_getfield cd_Table_setHeld_25 hT.1 rfl ?_
      refine r_iconst cd_Table_setHeld_28 ?_
      refine r_iload_n cd_Table_setHeld_29 rfl ?_
      refine r_ishl cd_Table_setHeld_30 ?_
      refine r_iconst cd_Table_setHeld_31 ?_
      refine r_ixor cd_Table_setHeld_32 ?_
      refine r_iand cd_Table_setHeld_33 ?_
      refine r_putfield cd_Table_setHeld_34 hT.1 (Nat.le_of_ble_eq_true rfl) rfl ?_
      exact r_vret cd_Table_setHeld_37 rt_Table_setHeld (by first | (rw [← hh, ← e1 c_10]; done) | (rw [← hh, ← e0 c_10]; done) | (rw [← hh, ← e1 c_10]; rfl) | (rw [← hh, ← e0 c_10]; rfl))
    · skip
      refine r_aload_n cd_Table_setHeld_13 rfl ?_
      refine r_getfield cd_Table_setHeld_14 hT.1 rfl ?_
      refine r_iconst cd_Table_setHeld_17 ?_
      refine r_iload_n cd_Table_setHeld_18 rfl ?_
      refine r_ishl cd_Table_setHeld_19 ?_
      refine r_ior cd_Table_setHeld_20 ?_
      refine r_goto cd_Table_setHeld_21 ?_
      refine r_putfield cd_Table_setHeld_34 hT.1 (Nat.le_of_ble_eq_true rfl) rfl ?_
      exact r_vret cd_Table_setHeld_37 rt_Table_setHeld (by first | (rw [← hh, ← e1 c_10]; done) | (rw [← hh, ← e0 c_10]; done) | (rw [← hh, ← e1 c_10]; rfl) | (rw [← hh, ← e0 c_10]; rfl))
  · skip
    exact absurd ⟨h0, h1⟩ c_4
theorem sp_isDead (hT : TabAt h t w) (hw : WF w) : Sp xs m_Table_isDead [vR t] h (some (vI (bp (at_ w 16 = -6)))) h := by
  refine en_Table_isDead ?_
  have hb := hw.2.2.2.1
  refine r_aload_n cd_Table_isDead_0 rfl ?_
  refine r_getfield cd_Table_isDead_1 hT.1 rfl ?_
  refine r_bipush cd_Table_isDead_4 ?_
  refine r_icmp_ne cd_Table_isDead_6 ⟨by omega, by omega⟩ ⟨by decide, by decide⟩ (fun c_6 => ?_) (fun c_6 => ?_)
  · skip
    refine r_iconst cd_Table_isDead_13 ?_
    exact r_zret cd_Table_isDead_14 rt_Table_isDead (by unfold bp; split <;> first | rfl | omega) (by rfl)
  · skip
    refine r_iconst cd_Table_isDead_9 ?_
    refine r_goto cd_Table_isDead_10 ?_
    exact r_zret cd_Table_isDead_14 rt_Table_isDead (by unfold bp; split <;> first | rfl | omega) (by rfl)
theorem sp_ballRod (hT : TabAt h t w) : Sp xs m_Table_ballRod [vR t] h (some (vI (at_ w 16))) h := by
  refine en_Table_ballRod ?_
  refine r_aload_n cd_Table_ballRod_0 rfl ?_
  refine r_getfield cd_Table_ballRod_1 hT.1 rfl ?_
  exact r_iret cd_Table_ballRod_4 rt_Table_ballRod (by first | rfl | omega | (split <;> first | rfl | omega)) (by rfl)
theorem sp_ballMan (hT : TabAt h t w) : Sp xs m_Table_ballMan [vR t] h (some (vI (at_ w 17))) h := by
  refine en_Table_ballMan ?_
  refine r_aload_n cd_Table_ballMan_0 rfl ?_
  refine r_getfield cd_Table_ballMan_1 hT.1 rfl ?_
  exact r_iret cd_Table_ballMan_4 rt_Table_ballMan (by first | rfl | omega | (split <;> first | rfl | omega)) (by rfl)
theorem sp_tenth (hT : TabAt h t w) : Sp xs m_Table_tenth [vR t] h (some (vI (at_ w 20))) h := by
  refine en_Table_tenth ?_
  refine r_aload_n cd_Table_tenth_0 rfl ?_
  refine r_getfield cd_Table_tenth_1 hT.1 rfl ?_
  exact r_iret cd_Table_tenth_4 rt_Table_tenth (by first | rfl | omega | (split <;> first | rfl | omega)) (by rfl)
theorem sp_heldRods (hT : TabAt h t w) : Sp xs m_Table_heldRods [vR t] h (some (vI (hbits w))) h := by
  refine en_Table_heldRods ?_
  refine r_aload_n cd_Table_heldRods_0 rfl ?_
  refine r_getfield cd_Table_heldRods_1 hT.1 rfl ?_
  exact r_iret cd_Table_heldRods_4 rt_Table_heldRods (by first | rfl | omega | (split <;> first | rfl | omega)) (by rfl)
theorem sp_placeOf {r m : Int} (hT : TabAt h t w) (hw : WF w) (h0 : 0 ≤ r) (h1 : r < 8) : Sp xs m_Table_placeOf [vR t, vI r, vI m] h (some (vI (pos w r m))) h := by
  refine en_Table_placeOf ?_
  refine r_aload_n cd_Table_placeOf_0 rfl ?_
  refine r_iload_n cd_Table_placeOf_1 rfl ?_
  refine r_vv1 cd_Table_placeOf_2 rfl ck_Table_placeOf_Table_slideOf (Nat.le_of_ble_eq_true rfl) hT.1 rfl (sp_slideOf hT hw h0 h1) ?_
  refine r_iload_n cd_Table_placeOf_5 rfl ?_
  refine r_iload_n cd_Table_placeOf_6 rfl ?_
  refine r_cv1 cd_Table_placeOf_7 rfl ck_Table_placeOf_Rods_gapOf rfl (Nat.le_of_ble_eq_true rfl) (sp_gap h0 h1) ?_
  refine r_imul cd_Table_placeOf_10 ?_
  refine r_iadd cd_Table_placeOf_11 ?_
  exact r_iret cd_Table_placeOf_12 rt_Table_placeOf (by first | rfl | omega | (split <;> first | rfl | omega)) (by rfl)
theorem sp_ballPlace (hT : TabAt h t w) (hw : WF w) : Sp xs m_Table_ballPlace [vR t] h (some (vI (if at_ w 16 = -6 then -6 else pos w (at_ w 16) (at_ w 17)))) h := by
  refine en_Table_ballPlace ?_
  have hb := hw.2.2.2.1
  refine r_aload_n cd_Table_ballPlace_0 rfl ?_
  refine r_vv0 cd_Table_ballPlace_1 rfl ck_Table_ballPlace_Table_isDead (Nat.le_of_ble_eq_true rfl) hT.1 rfl (sp_isDead hT hw) ?_
  refine r_ifeq_p cd_Table_ballPlace_4 (fun c_4 => ?_) (fun c_4 => ?_)
  · skip
    refine r_aload_n cd_Table_ballPlace_12 rfl ?_
    refine r_aload_n cd_Table_ballPlace_13 rfl ?_
    refine r_getfield cd_Table_ballPlace_14 hT.1 rfl ?_
    refine r_aload_n cd_Table_ballPlace_17 rfl ?_
    refine r_getfield cd_Table_ballPlace_18 hT.1 rfl ?_
    refine r_vv2 cd_Table_ballPlace_21 rfl ck_Table_ballPlace_Table_placeOf (Nat.le_of_ble_eq_true rfl) hT.1 rfl (sp_placeOf hT hw (by omega) (by omega)) ?_
    exact r_iret cd_Table_ballPlace_24 rt_Table_ballPlace (by first | (rw [if_pos c_4]; done) | (rw [if_neg c_4]; done)) (by rfl)
  · skip
    refine r_bipush cd_Table_ballPlace_7 ?_
    refine r_goto cd_Table_ballPlace_9 ?_
    exact r_iret cd_Table_ballPlace_24 rt_Table_ballPlace (by first | (rw [if_pos c_4]; done) | (rw [if_neg c_4]; done)) (by rfl)
theorem tset_ball {a b : Int} (hT : TabAt h t w) (hl : w.length = 21) : h.set t (.inl (6, [vR (t + 1), vR (t + 2), vI (hbits w), vI a, vI b, vI (at_ w 20)])) = tset h t (setw (setw w 16 a) 17 b) := by
  have hl2 : (setw w 16 a).length = 21 := by rw [sw_len, hl]
  have key : ∀ j : Int, 0 ≤ j → at_ (setw (setw w 16 a) 17 b) j = if 17 = j then b else if 16 = j then a else at_ w j := fun j hj => by rw [sw_at hl2 (by omega) (by omega) hj, sw_at hl (by omega) (by omega) hj]
  have k1 : tobj t (setw (setw w 16 a) 17 b) = .inl (6, [vR (t + 1), vR (t + 2), vI (hbits w), vI a, vI b, vI (at_ w 20)]) := by
    unfold tobj hbits
    rw [key 8 (by omega), key 9 (by omega), key 10 (by omega), key 11 (by omega), key 12 (by omega), key 13 (by omega), key 14 (by omega), key 15 (by omega), key 16 (by omega), key 17 (by omega), key 20 (by omega)]
    rfl
  rw [← k1]
  refine tset_o hT ?_ ?_ ?_
  · rw [sw_take (by omega), sw_take (by omega)]
  · rw [key 18 (by omega)]; rfl
  · rw [key 19 (by omega)]; rfl
theorem sp_loseBall (hT : TabAt h t w) (hl : w.length = 21) : Sp xs m_Table_loseBall [vR t] h none (tset h t (setw (setw w 16 (-6)) 17 (-6))) := by
  refine en_Table_loseBall ?_
  refine r_aload_n cd_Table_loseBall_0 rfl ?_
  refine r_bipush cd_Table_loseBall_1 ?_
  refine r_putfield cd_Table_loseBall_3 hT.1 (Nat.le_of_ble_eq_true rfl) rfl ?_
  refine r_aload_n cd_Table_loseBall_6 rfl ?_
  refine r_bipush cd_Table_loseBall_7 ?_
  refine r_putfield cd_Table_loseBall_9 (gs_eq hT.1) (Nat.le_of_ble_eq_true rfl) rfl ?_
  exact r_vret cd_Table_loseBall_12 rt_Table_loseBall (by rw [List.set_set]; exact tset_ball hT hl)
theorem sp_giveBall {r m : Int} (hT : TabAt h t w) (hl : w.length = 21) (h0 : 0 ≤ r) (h1 : r < 8) (h2 : 0 ≤ m) (h3 : m < 10) : Sp xs m_Table_giveBall [vR t, vI (10 * r + m)] h none (tset h t (setw (setw w 16 r) 17 m)) := by
  have e1 : (10 * r + m).tdiv 10 = r := by rw [Int.tdiv_eq_ediv_of_nonneg (by omega)]; omega
  have e2 : (10 * r + m).tmod 10 = m := by rw [Int.tmod_eq_emod_of_nonneg (by omega)]; omega
  refine en_Table_giveBall ?_
  refine r_iload_n cd_Table_giveBall_0 rfl ?_
  refine r_if_ge cd_Table_giveBall_1 ⟨by omega, by omega⟩ (fun c_1 => ?_) (fun c_1 => ?_)
  · skip
    refine r_aload_n cd_Table_giveBall_5 rfl ?_
    refine r_iload_n cd_Table_giveBall_6 rfl ?_
    refine r_bipush cd_Table_giveBall_7 ?_
    refine r_idiv cd_Table_giveBall_9 ⟨by omega, by omega⟩ ⟨by decide, by decide⟩ (by decide) ?_
    refine r_putfield cd_Table_giveBall_10 hT.1 (Nat.le_of_ble_eq_true rfl) rfl ?_
    refine r_aload_n cd_Table_giveBall_13 rfl ?_
    refine r_iload_n cd_Table_giveBall_14 rfl ?_
    refine r_bipush cd_Table_giveBall_15 ?_
    refine r_irem cd_Table_giveBall_17 ⟨by omega, by omega⟩ ⟨by decide, by decide⟩ (by decide) ?_
    refine r_putfield cd_Table_giveBall_18 (gs_eq hT.1) (Nat.le_of_ble_eq_true rfl) rfl ?_
    exact r_vret cd_Table_giveBall_21 rt_Table_giveBall (by first | omega | (rw [List.set_set]; show h.set t (.inl (6, [vR (t + 1), vR (t + 2), vI (hbits w), vI ((10 * r + m).tdiv 10), vI ((10 * r + m).tmod 10), vI (at_ w 20)])) = _; rw [e1, e2]; exact tset_ball hT hl))
  · skip
    exact r_vret cd_Table_giveBall_4 rt_Table_giveBall (by first | omega | (rw [List.set_set]; show h.set t (.inl (6, [vR (t + 1), vR (t + 2), vI (hbits w), vI ((10 * r + m).tdiv 10), vI ((10 * r + m).tmod 10), vI (at_ w 20)])) = _; rw [e1, e2]; exact tset_ball hT hl))
end C32
