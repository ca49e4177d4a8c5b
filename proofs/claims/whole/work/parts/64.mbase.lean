-- the reference: who stands where, shots, passes over
section C64
variable {xs : List Int} {h : MH} {v : List Int} {mn mc sm om ga mr ma ax : Int}
def mob (mn mc sm om ga mr ma ax : Int) : HC := .inl (8, [vR 41, vR 42, vI mn, vR 43, vI mc, vR 44, vI sm, vI om, vI ga, vI mr, vI ma, vI ax, vR 45, vR 46, vR 47, vR 48, vR 49, vR 50])
theorem lp_M_held {s but : Int} (hO : h[40]? = some (mob mn mc sm om ga mr ma ax)) (hN : h[42]? = some (.inr (0, v))) (hw : WF v) (hs : inR s) (hb : inR but) : ∀ (k : Nat) (r n : Int), 0 ≤ r → r + k = 8 → 0 ≤ n → n ≤ r → Rn xs m_M_held 5 [vR 40, vI s, vI but, vI n, vI r] [] h (some (vI (n + hcA v s but k r))) h := by
  obtain ⟨hs1, hs2⟩ := hs
  obtain ⟨hb1, hb2⟩ := hb
  intro k
  induction k with
  | zero =>
    intro r n h0 h1 h2 h3
    refine r_iload cd_M_held_5 rfl ?_
    refine r_bipush cd_M_held_7 ?_
    refine r_icmp_ge cd_M_held_9 ⟨by omega, by omega⟩ ⟨by decide, by decide⟩ (fun c_9 => ?_) (fun c_9 => ?_)
    · skip
      refine r_iload_n cd_M_held_50 rfl ?_
      exact r_iret cd_M_held_51 rt_M_held (by unfold hcA; omega) (by rfl)
    · skip
      omega
  | succ k ih =>
    intro r n h0 h1 h2 h3
    have hsd := sid_bd h0 (by omega : r < 8)
    have hh := hw.2.2.1 r h0 (by omega)
    have t : ∀ x : Int, x = (if sid r = s ∧ r ≠ but then at_ v (8 + r) else 0) → Rn xs m_M_held 42 [vR 40, vI s, vI but, vI n, vI r] [vI x, vI n] h (some (vI (n + hcA v s but (k + 1) r))) h := by
      intro x hx
      have e9 := ih (r + 1) (n + x) (by omega) (by omega) (by rw [hx]; split <;> omega) (by rw [hx]; split <;> omega)
      have e8 : n + hcA v s but (k + 1) r = n + x + hcA v s but k (r + 1) := by
        (conv => lhs; unfold hcA)
        rw [hx]
        omega
      rw [e8]
      refine r_iadd cd_M_held_42 ?_
      refine r_istoren5_3 cd_M_held_43 rfl ?_
      refine r_iinc5_4 cd_M_held_44 rfl ?_
      refine r_goto cd_M_held_47 ?_
      exact e9
    refine r_iload cd_M_held_5 rfl ?_
    refine r_bipush cd_M_held_7 ?_
    refine r_icmp_ge cd_M_held_9 ⟨by omega, by omega⟩ ⟨by decide, by decide⟩ (fun c_9 => ?_) (fun c_9 => ?_)
    · skip
      omega
    · skip
      refine r_iload_n cd_M_held_12 rfl ?_
      refine r_iload cd_M_held_13 rfl ?_
      refine r_cv1 cd_M_held_15 rfl ck_M_held_M_sideOf rfl (Nat.le_of_ble_eq_true rfl) (sp_M_sideOf h0 (by omega)) ?_
      refine r_iload_n cd_M_held_18 rfl ?_
      refine r_icmp_ne cd_M_held_19 ⟨by omega, by omega⟩ ⟨by omega, by omega⟩ (fun c_19 => ?_) (fun c_19 => ?_)
      · skip
        refine r_iconst cd_M_held_41 ?_
        first | exact t _ (by rw [if_pos ⟨by omega, by omega⟩]) | exact t _ (by rw [if_neg (by omega)])
      · skip
        refine r_iload cd_M_held_22 rfl ?_
        refine r_iload_n cd_M_held_24 rfl ?_
        refine r_icmp_eq cd_M_held_25 ⟨by omega, by omega⟩ ⟨by omega, by omega⟩ (fun c_25 => ?_) (fun c_25 => ?_)
        · skip
          refine r_iconst cd_M_held_41 ?_
          first | exact t _ (by rw [if_pos ⟨by omega, by omega⟩]) | exact t _ (by rw [if_neg (by omega)])
        · skip
          refine r_aload_n cd_M_held_28 rfl ?_
          refine r_getfield cd_M_held_29 hO rfl ?_
          refine r_bipush cd_M_held_32 ?_
          refine r_iload cd_M_held_34 rfl ?_
          refine r_iadd cd_M_held_36 ?_
          refine r_iaload (N := 21) cd_M_held_37 hN (wlen hw) (by omega) (by omega) (by omega) ?_
          refine r_goto cd_M_held_38 ?_
          first | exact t _ (by rw [if_pos ⟨by omega, by omega⟩]) | exact t _ (by rw [if_neg (by omega)])
theorem sp_M_held {s but : Int} (hO : h[40]? = some (mob mn mc sm om ga mr ma ax)) (hN : h[42]? = some (.inr (0, v))) (hw : WF v) (hs : inR s) (hb : inR but) : Sp xs m_M_held [vR 40, vI s, vI but] h (some (vI (hcn v s but))) h := by
  refine en_M_held ?_
  refine r_iconst cd_M_held_0 ?_
  refine r_istoren5_3 cd_M_held_1 rfl ?_
  refine r_iconst cd_M_held_2 ?_
  refine r_istore5_4 cd_M_held_3 rfl ?_
  (have e9 := lp_M_held (xs := xs) hO hN hw hs hb 8 0 0 (by omega) (by omega) (by omega) (by omega); rw [Int.zero_add] at e9; exact e9)
theorem sp_M_standsAt {r m : Int} (hO : h[40]? = some (mob mn mc sm om ga mr ma ax)) (hN : h[42]? = some (.inr (0, v))) (hw : WF v) (h0 : 0 ≤ r) (h1 : r < 8) : Sp xs m_M_standsAt [vR 40, vI r, vI m] h (some (vI (pos v r m))) h := by
  refine en_M_standsAt ?_
  refine r_aload_n cd_M_standsAt_0 rfl ?_
  refine r_getfield cd_M_standsAt_1 hO rfl ?_
  refine r_iload_n cd_M_standsAt_4 rfl ?_
  refine r_iaload (N := 21) cd_M_standsAt_5 hN (wlen hw) (by omega) (by omega) (by omega) ?_
  refine r_iload_n cd_M_standsAt_6 rfl ?_
  refine r_iload_n cd_M_standsAt_7 rfl ?_
  refine r_cv1 cd_M_standsAt_8 rfl ck_M_standsAt_M_apartOf rfl (Nat.le_of_ble_eq_true rfl) (sp_M_apartOf h0 h1) ?_
  refine r_imul cd_M_standsAt_11 ?_
  refine r_iadd cd_M_standsAt_12 ?_
  exact r_iret cd_M_standsAt_13 rt_M_standsAt (by rfl) (by rfl)
def cvn (v : List Int) (r p : Int) : Int := if cov v r p = -1 then -6 else cov v r p
def cvA (f g p : Int) (k : Nat) (m : Int) : Int := if covA f g p k m = -1 then -6 else covA f g p k m
theorem lp_M_covers {r p : Int} (hO : h[40]? = some (mob mn mc sm om ga mr ma ax)) (hN : h[42]? = some (.inr (0, v))) (hw : WF v) (h0 : 0 ≤ r) (h1 : r < 8) (p0 : -200 ≤ p) (p1 : p ≤ 200) : ∀ (k : Nat) (m : Int), 0 ≤ m → m + k = men r → Rn xs m_M_covers 2 [vR 40, vI r, vI p, vI m] [] h (some (vI (cvA (at_ v r) (gap r) p k m))) h := by
  have hm := men_bd h0 h1
  intro k
  induction k with
  | zero =>
    intro m m0 m1
    refine r_iload_n cd_M_covers_2 rfl ?_
    refine r_iload_n cd_M_covers_3 rfl ?_
    refine r_cv1 cd_M_covers_4 rfl ck_M_covers_M_menOf rfl (Nat.le_of_ble_eq_true rfl) (sp_M_menOf h0 h1) ?_
    refine r_icmp_ge cd_M_covers_7 ⟨by omega, by omega⟩ ⟨by omega, by omega⟩ (fun c_7 => ?_) (fun c_7 => ?_)
    · skip
      refine r_bipush cd_M_covers_34 ?_
      exact r_iret cd_M_covers_36 rt_M_covers (by rfl) (by rfl)
    · skip
      omega
  | succ k ih =>
    intro m m0 m1
    have a1 := hw.2.1 r h0 h1
    have a2 := mg_bd h0 h1 m0 (by omega : m < men r)
    have a3 := wid_bd h0 h1
    have hp : pos v r m = at_ v r + m * gap r := rfl
    refine r_iload_n cd_M_covers_2 rfl ?_
    refine r_iload_n cd_M_covers_3 rfl ?_
    refine r_cv1 cd_M_covers_4 rfl ck_M_covers_M_menOf rfl (Nat.le_of_ble_eq_true rfl) (sp_M_menOf h0 h1) ?_
    refine r_icmp_ge cd_M_covers_7 ⟨by omega, by omega⟩ ⟨by omega, by omega⟩ (fun c_7 => ?_) (fun c_7 => ?_)
    · skip
      omega
    · skip
      refine r_iload_n cd_M_covers_10 rfl ?_
      refine r_aload_n cd_M_covers_11 rfl ?_
      refine r_iload_n cd_M_covers_12 rfl ?_
      refine r_iload_n cd_M_covers_13 rfl ?_
      refine r_vv2 cd_M_covers_14 rfl ck_M_covers_M_standsAt (Nat.le_of_ble_eq_true rfl) hO rfl (sp_M_standsAt hO hN hw h0 h1) ?_
      refine r_isub cd_M_covers_17 ?_
      refine r_iconst cd_M_covers_18 ?_
      refine r_iconst cd_M_covers_19 ?_
      refine r_cv3 cd_M_covers_20 rfl ck_M_covers_M_in rfl (Nat.le_of_ble_eq_true rfl) (sp_M_in ⟨by omega, by omega⟩ ⟨by decide, by decide⟩ ⟨by decide, by decide⟩) ?_
      refine r_ifeq_p cd_M_covers_23 (fun c_23 => ?_) (fun c_23 => ?_)
      · skip
        refine r_iinc4_3 cd_M_covers_28 rfl ?_
        refine r_goto cd_M_covers_31 ?_
        (have e9 := ih (m + 1) (by omega) (by omega); unfold cvA covA; rw [if_neg (show ¬ (-1 ≤ at_ v r + m * gap r - p ∧ at_ v r + m * gap r - p ≤ 1) by omega)]; exact e9)
      · skip
        refine r_iload_n cd_M_covers_26 rfl ?_
        exact r_iret cd_M_covers_27 rt_M_covers (by (unfold cvA covA; rw [if_pos (show -1 ≤ at_ v r + m * gap r - p ∧ at_ v r + m * gap r - p ≤ 1 by omega), if_neg (by omega)])) (by rfl)
theorem sp_M_covers {r p : Int} (hO : h[40]? = some (mob mn mc sm om ga mr ma ax)) (hN : h[42]? = some (.inr (0, v))) (hw : WF v) (h0 : 0 ≤ r) (h1 : r < 8) (p0 : -200 ≤ p) (p1 : p ≤ 200) : Sp xs m_M_covers [vR 40, vI r, vI p] h (some (vI (cvn v r p))) h := by
  refine en_M_covers ?_
  have hm := men_bd h0 h1
  refine r_iconst cd_M_covers_0 ?_
  refine r_istoren4_3 cd_M_covers_1 rfl ?_
  exact lp_M_covers hO hN hw h0 h1 p0 p1 _ 0 (by omega) (by omega)
-- shots
theorem shA_out {w : List Int} {p d s br : Int} (hs : s = 0 ∨ s = 1) (b0 : 0 ≤ br) (b1 : br < 8) : ∀ (k : Nat) (i : Int), bh s br ≤ i → shA w p d s br k i = if glB p d s br = true then 80 else 10 * kp (1 - s)
  | 0, i, h => rfl
  | k + 1, i, h => by
    unfold shA
    have e : ¬ (0 ≤ br + i * upw s ∧ br + i * upw s < 8 ∧ sid (br + i * upw s) = 1 - s) := by
      intro z
      rcases hs with rfl | rfl
      · rw [show upw 0 = 1 by decide] at z
        have : bh 0 br = 8 - br := by unfold bh; rw [show kp (1 - 0) = 7 by decide]; unfold zabs; split <;> omega
        omega
      · rw [show upw 1 = -1 by decide] at z
        have : bh 1 br = br + 1 := by unfold bh; rw [show kp (1 - 1) = 0 by decide]; unfold zabs; split <;> omega
        omega
    rw [if_neg (fun z => e z.1)]
    exact shA_out hs b0 b1 k (i + 1) (by omega)
def bnR (z d by' : Int) : Prop := (by' = d ∧ z % 80 ≤ 40) ∨ (by' = -d ∧ (40 ≤ z % 80 ∨ z % 80 = 0))
theorem bh_end {s br : Int} (hs : s = 0 ∨ s = 1) (b0 : 0 ≤ br) (b1 : br < 8) : ∀ i : Int, 0 ≤ i → i ≤ bh s br → (i < bh s br → 0 ≤ br + i * upw s ∧ br + i * upw s < 8) ∧ (i = bh s br → ¬ (0 ≤ br + i * upw s ∧ br + i * upw s < 8)) ∧ br + i * upw s = br + (i - 1) * upw s + upw s ∧ -100 ≤ br + i * upw s ∧ br + i * upw s ≤ 100 := by
  intro i i0 i1
  rcases hs with rfl | rfl
  · rw [show upw 0 = 1 by decide]
    have : bh 0 br = 8 - br := by unfold bh; rw [show kp (1 - 0) = 7 by decide]; unfold zabs; split <;> omega
    omega
  · rw [show upw 1 = -1 by decide]
    have : bh 1 br = br + 1 := by unfold bh; rw [show kp (1 - 1) = 0 by decide]; unfold zabs; split <;> omega
    omega
theorem bn_step {z d B : Int} (d0 : -9 ≤ d) (d1 : d ≤ 9) (hB : bnR z d B) : (bnc z + B < 0 → -(bnc z + B) = bnc (z + d) ∧ bnR (z + d) d (-B)) ∧ (40 < bnc z + B → 80 - (bnc z + B) = bnc (z + d) ∧ bnR (z + d) d (-B)) ∧ (0 ≤ bnc z + B ∧ bnc z + B ≤ 40 → bnc z + B = bnc (z + d) ∧ bnR (z + d) d B) := by
  unfold bnR bnc at *
  refine ⟨fun y => ⟨?_, ?_⟩, fun y => ⟨?_, ?_⟩, fun y => ⟨?_, ?_⟩⟩
  · split at y <;> split <;> omega
  · split at y <;> omega
  · split at y <;> split <;> omega
  · split at y <;> omega
  · split at y <;> split <;> omega
  · split at y <;> omega
theorem lp_M_shotBy {d : Int} (hO : h[40]? = some (mob mn mc sm om ga mr ma ax)) (hN : h[42]? = some (.inr (0, v))) (hw : WF v) (ha : at_ v 16 ≠ -6) (d0 : -9 ≤ d) (d1 : d ≤ 9) : ∀ (k : Nat) (i A B r : Int) (x7 : MV), 0 ≤ i → i + k + 1 = bh (sid (at_ v 16)) (at_ v 16) → r = at_ v 16 + i * upw (sid (at_ v 16)) → A = bnc (bp0 v + i * d) → bnR (bp0 v + i * d) d B → Rn xs m_M_shotBy 61 [vR 40, vI d, vI (sid (at_ v 16)), vI (upw (sid (at_ v 16))), vI A, vI B, vI r, x7] [] h (some (vI (shA v (bp0 v) d (sid (at_ v 16)) (at_ v 16) (7 - i).toNat (i + 1) / 10))) (h.set 40 (mob mn mc (shA v (bp0 v) d (sid (at_ v 16)) (at_ v 16) (7 - i).toNat (i + 1) % 10) om ga mr ma ax)) := by
  obtain ⟨a1, a2, a3, a4⟩ := alive_bd hw ha
  have hs := sid_bd a1 a2
  have hp := bp0_bd hw ha
  have hbh := bh_bd hs a1 a2
  intro k
  induction k with
  | zero =>
    intro i A B r x7 i0 i1 hr hA hB
    have hbe := bh_end hs a1 a2 (i + 1) (by omega) (by omega)
    rw [show i + 1 - 1 = i by omega] at hbe
    have hbA := bnc_bd (bp0 v + i * d)
    have hm := d_mul (by omega : 0 ≤ i) (by omega) d0 d1
    have hmm : (i + 1) * d = i * d + d := by rw [Int.add_mul]; omega
    have hm2 := d_mul (by omega : 0 ≤ i + 1) (by omega) d0 d1
    have key := bn_step d0 d1 hB
    have hBb : -9 ≤ B ∧ B ≤ 9 := by unfold bnR at hB; omega
    rw [show bp0 v + i * d + d = bp0 v + (i + 1) * d by omega, ← hA] at key
    have hg : glB (bp0 v) d (sid (at_ v 16)) (at_ v 16) = true ↔ (15 ≤ bnc (bp0 v + (i + 1) * d) ∧ bnc (bp0 v + (i + 1) * d) ≤ 25) := by
      rw [gl_iff]
      unfold gl
      rw [show bh (sid (at_ v 16)) (at_ v 16) = i + 1 by omega]
    rw [shA_out hs a1 a2 _ _ (by omega)]
    have fin : ∀ A' B' r', r' = at_ v 16 + (i + 1) * upw (sid (at_ v 16)) → A' = bnc (bp0 v + (i + 1) * d) → Rn xs m_M_shotBy 109 [vR 40, vI d, vI (sid (at_ v 16)), vI (upw (sid (at_ v 16))), vI A', vI B', vI r', x7] [] h (some (vI ((if glB (bp0 v) d (sid (at_ v 16)) (at_ v 16) = true then 80 else 10 * kp (1 - sid (at_ v 16))) / 10))) (h.set 40 (mob mn mc ((if glB (bp0 v) d (sid (at_ v 16)) (at_ v 16) = true then 80 else 10 * kp (1 - sid (at_ v 16))) % 10) om ga mr ma ax)) := by
      intro A' B' r' hr' hA'
      have hnr : ¬ (0 ≤ r' ∧ r' < 8) := by rw [hr']; exact hbe.2.1 (by omega)
      have hb2 := bnc_bd (bp0 v + (i + 1) * d)
      have z80 : (80 : Int) / 10 = 8 ∧ (80 : Int) % 10 = 0 := by decide
      have hk := fun (q : ¬ sid (at_ v 16) = 0) => (show kp (1 - sid (at_ v 16)) = 0 by rw [show sid (at_ v 16) = 1 by omega]; decide)
      have hk0 := fun (q : sid (at_ v 16) = 0) => (show kp (1 - sid (at_ v 16)) = 7 by rw [q]; decide)
      have hkm : (10 * kp (1 - sid (at_ v 16))) % 10 = 0 := by omega
      refine r_iload cd_M_shotBy_109 rfl ?_
      refine r_cv1 cd_M_shotBy_111 rfl ck_M_shotBy_M_isRod rfl (Nat.le_of_ble_eq_true rfl) (sp_M_isRod (r := r') (by constructor <;> omega)) ?_
      refine r_istore8_7 cd_M_shotBy_114 rfl ?_
      refine r_iload cd_M_shotBy_116 rfl ?_
      refine r_ifeq_p cd_M_shotBy_118 (fun c_118 => ?_) (fun c_118 => ?_)
      · skip
        refine r_iload cd_M_shotBy_56 rfl ?_
        refine r_ifeq_p cd_M_shotBy_58 (fun c_58 => ?_) (fun c_58 => ?_)
        · skip
          refine r_aload_n cd_M_shotBy_156 rfl ?_
          refine r_iconst cd_M_shotBy_157 ?_
          refine r_putfield cd_M_shotBy_158 hO (Nat.le_of_ble_eq_true rfl) rfl ?_
          refine r_iload cd_M_shotBy_161 rfl ?_
          refine r_bipush cd_M_shotBy_163 ?_
          refine r_bipush cd_M_shotBy_165 ?_
          refine r_cv3 cd_M_shotBy_167 rfl ck_M_shotBy_M_in rfl (Nat.le_of_ble_eq_true rfl) (sp_M_in (by constructor <;> omega) ⟨by decide, by decide⟩ ⟨by decide, by decide⟩) ?_
          refine r_ifeq_p cd_M_shotBy_170 (fun c_170 => ?_) (fun c_170 => ?_)
          · skip
            refine r_iload_n cd_M_shotBy_178 rfl ?_
            refine r_if_ne cd_M_shotBy_179 ⟨by omega, by omega⟩ (fun c_179 => ?_) (fun c_179 => ?_)
            · skip
              refine r_iconst cd_M_shotBy_187 ?_
              exact r_iret cd_M_shotBy_188 rt_M_shotBy (by first | (rw [if_pos (hg.mpr (by omega))]; done) | (rw [if_pos (hg.mpr (by omega))]; rfl) | (rw [if_neg (fun z => by have := hg.mp z; omega), hk0 c_179]; rfl) | (rw [if_neg (fun z => by have := hg.mp z; omega), hk c_179]; rfl)) (by first | (rw [if_pos (hg.mpr (by omega))]; rfl) | (rw [if_neg (fun z => by have := hg.mp z; omega), hkm]; rfl))
            · skip
              refine r_bipush cd_M_shotBy_182 ?_
              refine r_goto cd_M_shotBy_184 ?_
              exact r_iret cd_M_shotBy_188 rt_M_shotBy (by first | (rw [if_pos (hg.mpr (by omega))]; done) | (rw [if_pos (hg.mpr (by omega))]; rfl) | (rw [if_neg (fun z => by have := hg.mp z; omega), hk0 c_179]; rfl) | (rw [if_neg (fun z => by have := hg.mp z; omega), hk c_179]; rfl)) (by first | (rw [if_pos (hg.mpr (by omega))]; rfl) | (rw [if_neg (fun z => by have := hg.mp z; omega), hkm]; rfl))
          · skip
            refine r_bipush cd_M_shotBy_173 ?_
            refine r_goto cd_M_shotBy_175 ?_
            exact r_iret cd_M_shotBy_188 rt_M_shotBy (by first | (rw [if_pos (hg.mpr (by omega))]; done) | (rw [if_pos (hg.mpr (by omega))]; rfl) | (rw [if_neg (fun z => by have := hg.mp z; omega), hk0 c_179]; rfl) | (rw [if_neg (fun z => by have := hg.mp z; omega), hk c_179]; rfl)) (by first | (rw [if_pos (hg.mpr (by omega))]; rfl) | (rw [if_neg (fun z => by have := hg.mp z; omega), hkm]; rfl))
        · skip
          exact absurd c_58 c_118
      · skip
        exact absurd c_118 hnr
    refine r_iload cd_M_shotBy_61 rfl ?_
    refine r_iload_n cd_M_shotBy_63 rfl ?_
    refine r_iadd cd_M_shotBy_64 ?_
    refine r_istore8_6 cd_M_shotBy_65 rfl ?_
    refine r_iload cd_M_shotBy_67 rfl ?_
    refine r_iload cd_M_shotBy_69 rfl ?_
    refine r_iadd cd_M_shotBy_71 ?_
    refine r_istore8_4 cd_M_shotBy_72 rfl ?_
    refine r_iload cd_M_shotBy_74 rfl ?_
    refine r_if_lt cd_M_shotBy_76 ⟨by omega, by omega⟩ (fun c_76 => ?_) (fun c_76 => ?_)
    · skip
      refine r_iload cd_M_shotBy_86 rfl ?_
      refine r_if_ge cd_M_shotBy_88 ⟨by omega, by omega⟩ (fun c_88 => ?_) (fun c_88 => ?_)
      · skip
        refine r_bipush cd_M_shotBy_97 ?_
        refine r_iload cd_M_shotBy_99 rfl ?_
        refine r_isub cd_M_shotBy_101 ?_
        refine r_istore8_4 cd_M_shotBy_102 rfl ?_
        refine r_iload cd_M_shotBy_104 rfl ?_
        refine r_ineg cd_M_shotBy_106 ?_
        refine r_istore8_5 cd_M_shotBy_107 rfl ?_
        first | exact fin _ _ _ (by omega) (key.1 (by omega)).1 | exact fin _ _ _ (by omega) (key.2.1 (by omega)).1 | exact fin _ _ _ (by omega) (key.2.2 (by omega)).1
      · skip
        refine r_iload cd_M_shotBy_91 rfl ?_
        refine r_ineg cd_M_shotBy_93 ?_
        refine r_goto cd_M_shotBy_94 ?_
        refine r_istore8_4 cd_M_shotBy_102 rfl ?_
        refine r_iload cd_M_shotBy_104 rfl ?_
        refine r_ineg cd_M_shotBy_106 ?_
        refine r_istore8_5 cd_M_shotBy_107 rfl ?_
        first | exact fin _ _ _ (by omega) (key.1 (by omega)).1 | exact fin _ _ _ (by omega) (key.2.1 (by omega)).1 | exact fin _ _ _ (by omega) (key.2.2 (by omega)).1
    · skip
      refine r_iload cd_M_shotBy_79 rfl ?_
      refine r_bipush cd_M_shotBy_81 ?_
      refine r_icmp_le cd_M_shotBy_83 ⟨by omega, by omega⟩ ⟨by decide, by decide⟩ (fun c_83 => ?_) (fun c_83 => ?_)
      · skip
        first | exact fin _ _ _ (by omega) (key.1 (by omega)).1 | exact fin _ _ _ (by omega) (key.2.1 (by omega)).1 | exact fin _ _ _ (by omega) (key.2.2 (by omega)).1
      · skip
        refine r_iload cd_M_shotBy_86 rfl ?_
        refine r_if_ge cd_M_shotBy_88 ⟨by omega, by omega⟩ (fun c_88 => ?_) (fun c_88 => ?_)
        · skip
          refine r_bipush cd_M_shotBy_97 ?_
          refine r_iload cd_M_shotBy_99 rfl ?_
          refine r_isub cd_M_shotBy_101 ?_
          refine r_istore8_4 cd_M_shotBy_102 rfl ?_
          refine r_iload cd_M_shotBy_104 rfl ?_
          refine r_ineg cd_M_shotBy_106 ?_
          refine r_istore8_5 cd_M_shotBy_107 rfl ?_
          first | exact fin _ _ _ (by omega) (key.1 (by omega)).1 | exact fin _ _ _ (by omega) (key.2.1 (by omega)).1 | exact fin _ _ _ (by omega) (key.2.2 (by omega)).1
        · skip
          refine r_iload cd_M_shotBy_91 rfl ?_
          refine r_ineg cd_M_shotBy_93 ?_
          refine r_goto cd_M_shotBy_94 ?_
          refine r_istore8_4 cd_M_shotBy_102 rfl ?_
          refine r_iload cd_M_shotBy_104 rfl ?_
          refine r_ineg cd_M_shotBy_106 ?_
          refine r_istore8_5 cd_M_shotBy_107 rfl ?_
          first | exact fin _ _ _ (by omega) (key.1 (by omega)).1 | exact fin _ _ _ (by omega) (key.2.1 (by omega)).1 | exact fin _ _ _ (by omega) (key.2.2 (by omega)).1
  | succ k ih =>
    intro i A B r x7 i0 i1 hr hA hB
    have hbe := bh_end hs a1 a2 (i + 1) (by omega) (by omega)
    rw [show i + 1 - 1 = i by omega] at hbe
    have hbA := bnc_bd (bp0 v + i * d)
    have hm := d_mul (by omega : 0 ≤ i) (by omega) d0 d1
    have hmm : (i + 1) * d = i * d + d := by rw [Int.add_mul]; omega
    have hm2 := d_mul (by omega : 0 ≤ i + 1) (by omega) d0 d1
    have key := bn_step d0 d1 hB
    have hBb : -9 ≤ B ∧ B ≤ 9 := by unfold bnR at hB; omega
    rw [show bp0 v + i * d + d = bp0 v + (i + 1) * d by omega, ← hA] at key
    have hbr := hbe.1 (by omega)
    have hs' := sid_bd hbr.1 hbr.2
    have hb2 := bnc_bd (bp0 v + (i + 1) * d)
    have hcv := cov_bd v (r := at_ v 16 + (i + 1) * upw (sid (at_ v 16))) (p := bnc (bp0 v + (i + 1) * d)) hbr.1 hbr.2
    have hmn := men_bd hbr.1 hbr.2
    rw [show (7 - i).toNat = (7 - (i + 1)).toNat + 1 by omega]
    have fin : ∀ A' B' r', r' = at_ v 16 + (i + 1) * upw (sid (at_ v 16)) → A' = bnc (bp0 v + (i + 1) * d) → bnR (bp0 v + (i + 1) * d) d B' → Rn xs m_M_shotBy 109 [vR 40, vI d, vI (sid (at_ v 16)), vI (upw (sid (at_ v 16))), vI A', vI B', vI r', x7] [] h (some (vI (shA v (bp0 v) d (sid (at_ v 16)) (at_ v 16) ((7 - (i + 1)).toNat + 1) (i + 1) / 10))) (h.set 40 (mob mn mc (shA v (bp0 v) d (sid (at_ v 16)) (at_ v 16) ((7 - (i + 1)).toNat + 1) (i + 1) % 10) om ga mr ma ax)) := by
      intro A' B' r' hr' hA' hB'
      subst hr'
      subst hA'
      have e9 := fun x => ih (i + 1) _ B' _ x (by omega) (by omega) rfl rfl hB'
      unfold shA
      by_cases z : (0 ≤ at_ v 16 + (i + 1) * upw (sid (at_ v 16)) ∧ at_ v 16 + (i + 1) * upw (sid (at_ v 16)) < 8 ∧ sid (at_ v 16 + (i + 1) * upw (sid (at_ v 16))) = 1 - sid (at_ v 16)) ∧ cov v (at_ v 16 + (i + 1) * upw (sid (at_ v 16))) (bnc (bp0 v + (i + 1) * d)) ≠ -1
      · skip
        rw [if_pos z]
        have hc : cvn v (at_ v 16 + (i + 1) * upw (sid (at_ v 16))) (bnc (bp0 v + (i + 1) * d)) = cov v (at_ v 16 + (i + 1) * upw (sid (at_ v 16))) (bnc (bp0 v + (i + 1) * d)) := by unfold cvn; rw [if_neg z.2]
        refine r_iload cd_M_shotBy_109 rfl ?_
        refine r_cv1 cd_M_shotBy_111 rfl ck_M_shotBy_M_isRod rfl (Nat.le_of_ble_eq_true rfl) (sp_M_isRod (by constructor <;> omega)) ?_
        refine r_istore8_7 cd_M_shotBy_114 rfl ?_
        refine r_iload cd_M_shotBy_116 rfl ?_
        refine r_ifeq_p cd_M_shotBy_118 (fun c_118 => ?_) (fun c_118 => ?_)
        · skip
          refine r_iload cd_M_shotBy_56 rfl ?_
          refine r_ifeq_p cd_M_shotBy_58 (fun c_58 => ?_) (fun c_58 => ?_)
          · skip
            first | exact absurd hbr c_118 | exact absurd hbr c_58
          · skip
            omega
        · skip
          refine r_iload cd_M_shotBy_121 rfl ?_
          refine r_cv1 cd_M_shotBy_123 rfl ck_M_shotBy_M_sideOf rfl (Nat.le_of_ble_eq_true rfl) (sp_M_sideOf hbr.1 hbr.2) ?_
          refine r_iload_n cd_M_shotBy_126 rfl ?_
          refine r_icmp_eq cd_M_shotBy_127 ⟨by omega, by omega⟩ ⟨by omega, by omega⟩ (fun c_127 => ?_) (fun c_127 => ?_)
          · skip
            refine r_iload cd_M_shotBy_56 rfl ?_
            refine r_ifeq_p cd_M_shotBy_58 (fun c_58 => ?_) (fun c_58 => ?_)
            · skip
              first | exact absurd hbr c_118 | exact absurd hbr c_58
            · skip
              omega
          · skip
            refine r_aload_n cd_M_shotBy_130 rfl ?_
            refine r_iload cd_M_shotBy_131 rfl ?_
            refine r_iload cd_M_shotBy_133 rfl ?_
            refine r_vv2 cd_M_shotBy_135 rfl ck_M_shotBy_M_covers (Nat.le_of_ble_eq_true rfl) hO rfl (sp_M_covers hO hN hw hbr.1 hbr.2 (by omega) (by omega)) ?_
            refine r_if_lt cd_M_shotBy_138 ⟨by omega, by omega⟩ (fun c_138 => ?_) (fun c_138 => ?_)
            · skip
              refine r_iload cd_M_shotBy_56 rfl ?_
              refine r_ifeq_p cd_M_shotBy_58 (fun c_58 => ?_) (fun c_58 => ?_)
              · skip
                first | exact absurd hbr c_118 | exact absurd hbr c_58
              · skip
                omega
            · skip
              refine r_aload_n cd_M_shotBy_141 rfl ?_
              refine r_aload_n cd_M_shotBy_142 rfl ?_
              refine r_iload cd_M_shotBy_143 rfl ?_
              refine r_iload cd_M_shotBy_145 rfl ?_
              refine r_vv2 cd_M_shotBy_147 rfl ck_M_shotBy_M_covers (Nat.le_of_ble_eq_true rfl) hO rfl (sp_M_covers hO hN hw hbr.1 hbr.2 (by omega) (by omega)) ?_
              refine r_putfield cd_M_shotBy_150 hO (Nat.le_of_ble_eq_true rfl) rfl ?_
              refine r_iload cd_M_shotBy_153 rfl ?_
              exact r_iret cd_M_shotBy_155 rt_M_shotBy (by omega) (by (rw [hc, show (10 * (at_ v 16 + (i + 1) * upw (sid (at_ v 16))) + cov v (at_ v 16 + (i + 1) * upw (sid (at_ v 16))) (bnc (bp0 v + (i + 1) * d))) % 10 = cov v (at_ v 16 + (i + 1) * upw (sid (at_ v 16))) (bnc (bp0 v + (i + 1) * d)) by omega]; rfl))
      · skip
        rw [if_neg z]
        have hc : sid (at_ v 16 + (i + 1) * upw (sid (at_ v 16))) = sid (at_ v 16) ∨ cvn v (at_ v 16 + (i + 1) * upw (sid (at_ v 16))) (bnc (bp0 v + (i + 1) * d)) = -6 := by
          by_cases y : cov v (at_ v 16 + (i + 1) * upw (sid (at_ v 16))) (bnc (bp0 v + (i + 1) * d)) = -1
          · right; unfold cvn; rw [if_pos y]
          · left
            have : ¬ sid (at_ v 16 + (i + 1) * upw (sid (at_ v 16))) = 1 - sid (at_ v 16) := fun q => z ⟨⟨hbr.1, hbr.2, q⟩, y⟩
            omega
        have hcb : -6 ≤ cvn v (at_ v 16 + (i + 1) * upw (sid (at_ v 16))) (bnc (bp0 v + (i + 1) * d)) ∧ cvn v (at_ v 16 + (i + 1) * upw (sid (at_ v 16))) (bnc (bp0 v + (i + 1) * d)) ≤ 10 := by unfold cvn; split <;> omega
        refine r_iload cd_M_shotBy_109 rfl ?_
        refine r_cv1 cd_M_shotBy_111 rfl ck_M_shotBy_M_isRod rfl (Nat.le_of_ble_eq_true rfl) (sp_M_isRod (by constructor <;> omega)) ?_
        refine r_istore8_7 cd_M_shotBy_114 rfl ?_
        refine r_iload cd_M_shotBy_116 rfl ?_
        refine r_ifeq_p cd_M_shotBy_118 (fun c_118 => ?_) (fun c_118 => ?_)
        · skip
          refine r_iload cd_M_shotBy_56 rfl ?_
          refine r_ifeq_p cd_M_shotBy_58 (fun c_58 => ?_) (fun c_58 => ?_)
          · skip
            first | exact absurd hbr c_118 | exact absurd hbr c_58
          · skip
            exact e9 _
        · skip
          refine r_iload cd_M_shotBy_121 rfl ?_
          refine r_cv1 cd_M_shotBy_123 rfl ck_M_shotBy_M_sideOf rfl (Nat.le_of_ble_eq_true rfl) (sp_M_sideOf hbr.1 hbr.2) ?_
          refine r_iload_n cd_M_shotBy_126 rfl ?_
          refine r_icmp_eq cd_M_shotBy_127 ⟨by omega, by omega⟩ ⟨by omega, by omega⟩ (fun c_127 => ?_) (fun c_127 => ?_)
          · skip
            refine r_iload cd_M_shotBy_56 rfl ?_
            refine r_ifeq_p cd_M_shotBy_58 (fun c_58 => ?_) (fun c_58 => ?_)
            · skip
              first | exact absurd hbr c_118 | exact absurd hbr c_58
            · skip
              exact e9 _
          · skip
            refine r_aload_n cd_M_shotBy_130 rfl ?_
            refine r_iload cd_M_shotBy_131 rfl ?_
            refine r_iload cd_M_shotBy_133 rfl ?_
            refine r_vv2 cd_M_shotBy_135 rfl ck_M_shotBy_M_covers (Nat.le_of_ble_eq_true rfl) hO rfl (sp_M_covers hO hN hw hbr.1 hbr.2 (by omega) (by omega)) ?_
            refine r_if_lt cd_M_shotBy_138 ⟨by omega, by omega⟩ (fun c_138 => ?_) (fun c_138 => ?_)
            · skip
              refine r_iload cd_M_shotBy_56 rfl ?_
              refine r_ifeq_p cd_M_shotBy_58 (fun c_58 => ?_) (fun c_58 => ?_)
              · skip
                first | exact absurd hbr c_118 | exact absurd hbr c_58
              · skip
                exact e9 _
            · skip
              omega
    refine r_iload cd_M_shotBy_61 rfl ?_
    refine r_iload_n cd_M_shotBy_63 rfl ?_
    refine r_iadd cd_M_shotBy_64 ?_
    refine r_istore8_6 cd_M_shotBy_65 rfl ?_
    refine r_iload cd_M_shotBy_67 rfl ?_
    refine r_iload cd_M_shotBy_69 rfl ?_
    refine r_iadd cd_M_shotBy_71 ?_
    refine r_istore8_4 cd_M_shotBy_72 rfl ?_
    refine r_iload cd_M_shotBy_74 rfl ?_
    refine r_if_lt cd_M_shotBy_76 ⟨by omega, by omega⟩ (fun c_76 => ?_) (fun c_76 => ?_)
    · skip
      refine r_iload cd_M_shotBy_86 rfl ?_
      refine r_if_ge cd_M_shotBy_88 ⟨by omega, by omega⟩ (fun c_88 => ?_) (fun c_88 => ?_)
      · skip
        refine r_bipush cd_M_shotBy_97 ?_
        refine r_iload cd_M_shotBy_99 rfl ?_
        refine r_isub cd_M_shotBy_101 ?_
        refine r_istore8_4 cd_M_shotBy_102 rfl ?_
        refine r_iload cd_M_shotBy_104 rfl ?_
        refine r_ineg cd_M_shotBy_106 ?_
        refine r_istore8_5 cd_M_shotBy_107 rfl ?_
        first | exact fin _ _ _ (by omega) (key.1 (by omega)).1 (key.1 (by omega)).2 | exact fin _ _ _ (by omega) (key.2.1 (by omega)).1 (key.2.1 (by omega)).2 | exact fin _ _ _ (by omega) (key.2.2 (by omega)).1 (key.2.2 (by omega)).2
      · skip
        refine r_iload cd_M_shotBy_91 rfl ?_
        refine r_ineg cd_M_shotBy_93 ?_
        refine r_goto cd_M_shotBy_94 ?_
        refine r_istore8_4 cd_M_shotBy_102 rfl ?_
        refine r_iload cd_M_shotBy_104 rfl ?_
        refine r_ineg cd_M_shotBy_106 ?_
        refine r_istore8_5 cd_M_shotBy_107 rfl ?_
        first | exact fin _ _ _ (by omega) (key.1 (by omega)).1 (key.1 (by omega)).2 | exact fin _ _ _ (by omega) (key.2.1 (by omega)).1 (key.2.1 (by omega)).2 | exact fin _ _ _ (by omega) (key.2.2 (by omega)).1 (key.2.2 (by omega)).2
    · skip
      refine r_iload cd_M_shotBy_79 rfl ?_
      refine r_bipush cd_M_shotBy_81 ?_
      refine r_icmp_le cd_M_shotBy_83 ⟨by omega, by omega⟩ ⟨by decide, by decide⟩ (fun c_83 => ?_) (fun c_83 => ?_)
      · skip
        first | exact fin _ _ _ (by omega) (key.1 (by omega)).1 (key.1 (by omega)).2 | exact fin _ _ _ (by omega) (key.2.1 (by omega)).1 (key.2.1 (by omega)).2 | exact fin _ _ _ (by omega) (key.2.2 (by omega)).1 (key.2.2 (by omega)).2
      · skip
        refine r_iload cd_M_shotBy_86 rfl ?_
        refine r_if_ge cd_M_shotBy_88 ⟨by omega, by omega⟩ (fun c_88 => ?_) (fun c_88 => ?_)
        · skip
          refine r_bipush cd_M_shotBy_97 ?_
          refine r_iload cd_M_shotBy_99 rfl ?_
          refine r_isub cd_M_shotBy_101 ?_
          refine r_istore8_4 cd_M_shotBy_102 rfl ?_
          refine r_iload cd_M_shotBy_104 rfl ?_
          refine r_ineg cd_M_shotBy_106 ?_
          refine r_istore8_5 cd_M_shotBy_107 rfl ?_
          first | exact fin _ _ _ (by omega) (key.1 (by omega)).1 (key.1 (by omega)).2 | exact fin _ _ _ (by omega) (key.2.1 (by omega)).1 (key.2.1 (by omega)).2 | exact fin _ _ _ (by omega) (key.2.2 (by omega)).1 (key.2.2 (by omega)).2
        · skip
          refine r_iload cd_M_shotBy_91 rfl ?_
          refine r_ineg cd_M_shotBy_93 ?_
          refine r_goto cd_M_shotBy_94 ?_
          refine r_istore8_4 cd_M_shotBy_102 rfl ?_
          refine r_iload cd_M_shotBy_104 rfl ?_
          refine r_ineg cd_M_shotBy_106 ?_
          refine r_istore8_5 cd_M_shotBy_107 rfl ?_
          first | exact fin _ _ _ (by omega) (key.1 (by omega)).1 (key.1 (by omega)).2 | exact fin _ _ _ (by omega) (key.2.1 (by omega)).1 (key.2.1 (by omega)).2 | exact fin _ _ _ (by omega) (key.2.2 (by omega)).1 (key.2.2 (by omega)).2
theorem sp_M_shotBy {d : Int} (hO : h[40]? = some (mob mn mc sm om ga mr ma ax)) (hN : h[42]? = some (.inr (0, v))) (hw : WF v) (ha : at_ v 16 ≠ -6) (d0 : -9 ≤ d) (d1 : d ≤ 9) : Sp xs m_M_shotBy [vR 40, vI d] h (some (vI (shot v d / 10))) (h.set 40 (mob mn mc (shot v d % 10) om ga mr ma ax)) := by
  obtain ⟨a1, a2, a3, a4⟩ := alive_bd hw ha
  have hs := sid_bd a1 a2
  have hp := bp0_bd hw ha
  have hbh := bh_bd hs a1 a2
  have hb0 : bp0 v = pos v (at_ v 16) (at_ v 17) := rfl
  have e9 := fun B x => lp_M_shotBy (xs := xs) hO hN hw ha d0 d1 (bh (sid (at_ v 16)) (at_ v 16) - 1).toNat 0 (bp0 v) B (at_ v 16) x (by omega) (by omega) (by omega) (by rw [Int.zero_mul, Int.add_zero]; unfold bnc; split <;> omega)
  rw [show (7 - (0 : Int)).toNat = 7 by decide] at e9
  have tail : ∀ x, x = upw (sid (at_ v 16)) → Rn xs m_M_shotBy 20 [vR 40, vI d, vI (sid (at_ v 16)), vU, vU, vU, vU, vU] [vI x] h (some (vI (shot v d / 10))) (h.set 40 (mob mn mc (shot v d % 10) om ga mr ma ax)) := by
    intro x hx
    subst hx
    have e8 := fun x => e9 d x (by unfold bnR; rw [Int.zero_mul, Int.add_zero]; omega)
    refine r_istoren8_3 cd_M_shotBy_20 rfl ?_
    refine r_aload_n cd_M_shotBy_21 rfl ?_
    refine r_aload_n cd_M_shotBy_22 rfl ?_
    refine r_getfield cd_M_shotBy_23 hO rfl ?_
    refine r_bipush cd_M_shotBy_26 ?_
    refine r_iaload (N := 21) cd_M_shotBy_28 hN (wlen hw) (by omega) (by omega) (by omega) ?_
    refine r_aload_n cd_M_shotBy_29 rfl ?_
    refine r_getfield cd_M_shotBy_30 hO rfl ?_
    refine r_bipush cd_M_shotBy_33 ?_
    refine r_iaload (N := 21) cd_M_shotBy_35 hN (wlen hw) (by omega) (by omega) (by omega) ?_
    refine r_vv2 cd_M_shotBy_36 rfl ck_M_shotBy_M_standsAt (Nat.le_of_ble_eq_true rfl) hO rfl (sp_M_standsAt hO hN hw a1 a2) ?_
    refine r_istore8_4 cd_M_shotBy_39 rfl ?_
    refine r_iload_n cd_M_shotBy_41 rfl ?_
    refine r_istore8_5 cd_M_shotBy_42 rfl ?_
    refine r_aload_n cd_M_shotBy_44 rfl ?_
    refine r_getfield cd_M_shotBy_45 hO rfl ?_
    refine r_bipush cd_M_shotBy_48 ?_
    refine r_iaload (N := 21) cd_M_shotBy_50 hN (wlen hw) (by omega) (by omega) (by omega) ?_
    refine r_istore8_6 cd_M_shotBy_51 rfl ?_
    refine r_iconst cd_M_shotBy_53 ?_
    refine r_istore8_7 cd_M_shotBy_54 rfl ?_
    refine r_iload cd_M_shotBy_56 rfl ?_
    refine r_if_eq cd_M_shotBy_58 ⟨by decide, by decide⟩ (fun c_58 => absurd c_58 (by decide)) (fun _ => ?_)
    exact e8 _
  refine en_M_shotBy ?_
  refine r_aload_n cd_M_shotBy_0 rfl ?_
  refine r_getfield cd_M_shotBy_1 hO rfl ?_
  refine r_bipush cd_M_shotBy_4 ?_
  refine r_iaload (N := 21) cd_M_shotBy_6 hN (wlen hw) (by omega) (by omega) (by omega) ?_
  refine r_cv1 cd_M_shotBy_7 rfl ck_M_shotBy_M_sideOf rfl (Nat.le_of_ble_eq_true rfl) (sp_M_sideOf a1 a2) ?_
  refine r_istoren8_2 cd_M_shotBy_10 rfl ?_
  refine r_iload_n cd_M_shotBy_11 rfl ?_
  refine r_if_ne cd_M_shotBy_12 ⟨by omega, by omega⟩ (fun c_12 => ?_) (fun c_12 => ?_)
  · skip
    refine r_iconst cd_M_shotBy_19 ?_
    exact tail _ (by unfold upw; first | rw [if_pos c_12] | rw [if_neg c_12])
  · skip
    refine r_iconst cd_M_shotBy_15 ?_
    refine r_goto cd_M_shotBy_16 ?_
    exact tail _ (by unfold upw; first | rw [if_pos c_12] | rw [if_neg c_12])
end C64
