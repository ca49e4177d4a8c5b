-- the reference: fits, ask
section C74
variable {xs : List Int} {c : Nat → HC} {mn mc sm om ga mr ma ax : Int} {b v sv dv fa gr ng wy im kp : List Int} {sh sd rw : List Int} {fd : Int}
theorem lp_M_isFit {code : Int} (hR : SgR sv sh sd) (hO : SgOK sh sd rw mn fd) (c0 : 16 ≤ code) (c1 : code < 80) : ∀ (k : Nat) (i : Int), 0 ≤ i → i + k = 8 → Rn xs m_M_isFit 21 [vR 40, vI code, vI 1, vI i] [] (z40 c (rf mn mc sm om ga mr ma ax b v sv dv fa gr ng wy im kp)) (some (vI (bp (faB sh sd mn code k i = true)))) (z40 c (rf mn mc sm om ga mr ma ax b v sv dv fa gr ng wy im kp)) := by
  have hl : ((sv.length : Nat) : Int) = 16 := by rw [hR.1]; rfl
  have hn := hO.2.2.2.1
  intro k
  induction k with
  | zero =>
    intro i i0 i1
    unfold faB
    rw [bp_t rfl]
    refine r_iload_n cd_M_isFit_21 rfl ?_
    refine r_aload_n cd_M_isFit_22 rfl ?_
    refine r_getfield cd_M_isFit_23 zr_O rfl ?_
    refine r_icmp_ge cd_M_isFit_26 ⟨by omega, by omega⟩ ⟨by omega, by omega⟩ (fun c_26 => ?_) (fun c_26 => ?_)
    · skip
      refine r_iload_n cd_M_isFit_70 rfl ?_
      exact r_zretc cd_M_isFit_71 rt_M_isFit (by decide) (by rfl) (by rfl)
    · skip
      omega
  | succ k ih =>
    intro i i0 i1
    by_cases z : mn ≤ i
    · have e0 : faB sh sd mn code (k + 1) i = true := by unfold faB; rw [if_pos z]
      rw [e0, bp_t rfl]
      refine r_iload_n cd_M_isFit_21 rfl ?_
      refine r_aload_n cd_M_isFit_22 rfl ?_
      refine r_getfield cd_M_isFit_23 zr_O rfl ?_
      refine r_icmp_ge cd_M_isFit_26 ⟨by omega, by omega⟩ ⟨by omega, by omega⟩ (fun c_26 => ?_) (fun c_26 => ?_)
      · skip
        refine r_iload_n cd_M_isFit_70 rfl ?_
        exact r_zretc cd_M_isFit_71 rt_M_isFit (by decide) (by rfl) (by rfl)
      · skip
        omega
    · have q := hR.2 i i0 (by omega)
      have q1 := hO.2.2.2.2.1 i i0 (by omega)
      have q2 := hO.2.2.2.2.2.1 i i0 (by omega)
      have q3 := sdb_bd (row := code) (shot := at_ sh i) (by omega) c1 q1.1
      have e0 : faB sh sd mn code (k + 1) i = (decide (sdb code (at_ sh i) = at_ sd i) && faB sh sd mn code k (i + 1)) := by (conv => lhs; unfold faB); rw [if_neg z]
      have e9 := ih (i + 1) (by omega) (by omega)
      by_cases y : sdb code (at_ sh i) = at_ sd i
      · rw [decide_eq_true y, Bool.true_and] at e0
        rw [e0]
        refine r_iload_n cd_M_isFit_21 rfl ?_
        refine r_aload_n cd_M_isFit_22 rfl ?_
        refine r_getfield cd_M_isFit_23 zr_O rfl ?_
        refine r_icmp_ge cd_M_isFit_26 ⟨by omega, by omega⟩ ⟨by omega, by omega⟩ (fun c_26 => ?_) (fun c_26 => ?_)
        · skip
          omega
        · skip
          refine r_iload_n cd_M_isFit_29 rfl ?_
          refine r_if_eq cd_M_isFit_30 ⟨by decide, by decide⟩ (fun c_30 => absurd c_30 (by decide)) (fun _ => ?_)
          refine r_iload_n cd_M_isFit_33 rfl ?_
          refine r_aload_n cd_M_isFit_34 rfl ?_
          refine r_getfield cd_M_isFit_35 zr_O rfl ?_
          refine r_iconst cd_M_isFit_38 ?_
          refine r_iload_n cd_M_isFit_39 rfl ?_
          refine r_imul cd_M_isFit_40 ?_
          refine r_iaload (N := 16) cd_M_isFit_41 zr_S hl (by omega) (by omega) (by omega) ?_
          refine r_cv2 cd_M_isFit_42 rfl ck_M_isFit_M_sideAt rfl (Nat.le_of_ble_eq_true rfl) (by rw [q.1]; exact sp_M_sideAt c0 c1 q1.1 q1.2) ?_
          refine r_aload_n cd_M_isFit_45 rfl ?_
          refine r_getfield cd_M_isFit_46 zr_O rfl ?_
          refine r_iconst cd_M_isFit_49 ?_
          refine r_iload_n cd_M_isFit_50 rfl ?_
          refine r_imul cd_M_isFit_51 ?_
          refine r_iconst cd_M_isFit_52 ?_
          refine r_iadd cd_M_isFit_53 ?_
          refine r_iaload (N := 16) cd_M_isFit_54 zr_S hl (by omega) (by omega) (by omega) ?_
          refine r_icmp_ne cd_M_isFit_55 ⟨by omega, by omega⟩ ⟨by omega, by omega⟩ (fun c_55 => ?_) (fun c_55 => ?_)
          · skip
            omega
          · skip
            refine r_iconst cd_M_isFit_58 ?_
            refine r_goto cd_M_isFit_59 ?_
            refine r_istoren4_2 cd_M_isFit_63 rfl ?_
            refine r_iinc4_3 cd_M_isFit_64 rfl ?_
            refine r_goto cd_M_isFit_67 ?_
            exact e9
      · rw [decide_eq_false y, Bool.false_and] at e0
        rw [e0, bp_f (by decide)]
        have t70 : ∀ i', Rn xs m_M_isFit 70 [vR 40, vI code, vI 0, vI i'] [] (z40 c (rf mn mc sm om ga mr ma ax b v sv dv fa gr ng wy im kp)) (some (vI 0)) (z40 c (rf mn mc sm om ga mr ma ax b v sv dv fa gr ng wy im kp)) := by
          intro i'
          refine r_iload_n cd_M_isFit_70 rfl ?_
          exact r_zretc cd_M_isFit_71 rt_M_isFit (by decide) (by rfl) (by rfl)
        by_cases y2 : mn ≤ i + 1
        · skip
          refine r_iload_n cd_M_isFit_21 rfl ?_
          refine r_aload_n cd_M_isFit_22 rfl ?_
          refine r_getfield cd_M_isFit_23 zr_O rfl ?_
          refine r_icmp_ge cd_M_isFit_26 ⟨by omega, by omega⟩ ⟨by omega, by omega⟩ (fun c_26 => ?_) (fun c_26 => ?_)
          · skip
            first | exact t70 _ | omega
          · skip
            refine r_iload_n cd_M_isFit_29 rfl ?_
            refine r_if_eq cd_M_isFit_30 ⟨by decide, by decide⟩ (fun c_30 => absurd c_30 (by decide)) (fun _ => ?_)
            refine r_iload_n cd_M_isFit_33 rfl ?_
            refine r_aload_n cd_M_isFit_34 rfl ?_
            refine r_getfield cd_M_isFit_35 zr_O rfl ?_
            refine r_iconst cd_M_isFit_38 ?_
            refine r_iload_n cd_M_isFit_39 rfl ?_
            refine r_imul cd_M_isFit_40 ?_
            refine r_iaload (N := 16) cd_M_isFit_41 zr_S hl (by omega) (by omega) (by omega) ?_
            refine r_cv2 cd_M_isFit_42 rfl ck_M_isFit_M_sideAt rfl (Nat.le_of_ble_eq_true rfl) (by rw [q.1]; exact sp_M_sideAt c0 c1 q1.1 q1.2) ?_
            refine r_aload_n cd_M_isFit_45 rfl ?_
            refine r_getfield cd_M_isFit_46 zr_O rfl ?_
            refine r_iconst cd_M_isFit_49 ?_
            refine r_iload_n cd_M_isFit_50 rfl ?_
            refine r_imul cd_M_isFit_51 ?_
            refine r_iconst cd_M_isFit_52 ?_
            refine r_iadd cd_M_isFit_53 ?_
            refine r_iaload (N := 16) cd_M_isFit_54 zr_S hl (by omega) (by omega) (by omega) ?_
            refine r_icmp_ne cd_M_isFit_55 ⟨by omega, by omega⟩ ⟨by omega, by omega⟩ (fun c_55 => ?_) (fun c_55 => ?_)
            · skip
              refine r_iconst cd_M_isFit_62 ?_
              refine r_istoren4_2 cd_M_isFit_63 rfl ?_
              refine r_iinc4_3 cd_M_isFit_64 rfl ?_
              refine r_goto cd_M_isFit_67 ?_
              refine r_iload_n cd_M_isFit_21 rfl ?_
              refine r_aload_n cd_M_isFit_22 rfl ?_
              refine r_getfield cd_M_isFit_23 zr_O rfl ?_
              refine r_icmp_ge cd_M_isFit_26 ⟨by omega, by omega⟩ ⟨by omega, by omega⟩ (fun c_26 => ?_) (fun c_26 => ?_)
              · skip
                first | exact t70 _ | omega
              · skip
                refine r_iload_n cd_M_isFit_29 rfl ?_
                refine r_if_eq cd_M_isFit_30 ⟨by decide, by decide⟩ (fun _ => ?_) (fun c_30 => absurd c_30 (by decide))
                first | exact t70 _ | omega
            · skip
              omega
        · skip
          refine r_iload_n cd_M_isFit_21 rfl ?_
          refine r_aload_n cd_M_isFit_22 rfl ?_
          refine r_getfield cd_M_isFit_23 zr_O rfl ?_
          refine r_icmp_ge cd_M_isFit_26 ⟨by omega, by omega⟩ ⟨by omega, by omega⟩ (fun c_26 => ?_) (fun c_26 => ?_)
          · skip
            first | exact t70 _ | omega
          · skip
            refine r_iload_n cd_M_isFit_29 rfl ?_
            refine r_if_eq cd_M_isFit_30 ⟨by decide, by decide⟩ (fun c_30 => absurd c_30 (by decide)) (fun _ => ?_)
            refine r_iload_n cd_M_isFit_33 rfl ?_
            refine r_aload_n cd_M_isFit_34 rfl ?_
            refine r_getfield cd_M_isFit_35 zr_O rfl ?_
            refine r_iconst cd_M_isFit_38 ?_
            refine r_iload_n cd_M_isFit_39 rfl ?_
            refine r_imul cd_M_isFit_40 ?_
            refine r_iaload (N := 16) cd_M_isFit_41 zr_S hl (by omega) (by omega) (by omega) ?_
            refine r_cv2 cd_M_isFit_42 rfl ck_M_isFit_M_sideAt rfl (Nat.le_of_ble_eq_true rfl) (by rw [q.1]; exact sp_M_sideAt c0 c1 q1.1 q1.2) ?_
            refine r_aload_n cd_M_isFit_45 rfl ?_
            refine r_getfield cd_M_isFit_46 zr_O rfl ?_
            refine r_iconst cd_M_isFit_49 ?_
            refine r_iload_n cd_M_isFit_50 rfl ?_
            refine r_imul cd_M_isFit_51 ?_
            refine r_iconst cd_M_isFit_52 ?_
            refine r_iadd cd_M_isFit_53 ?_
            refine r_iaload (N := 16) cd_M_isFit_54 zr_S hl (by omega) (by omega) (by omega) ?_
            refine r_icmp_ne cd_M_isFit_55 ⟨by omega, by omega⟩ ⟨by omega, by omega⟩ (fun c_55 => ?_) (fun c_55 => ?_)
            · skip
              refine r_iconst cd_M_isFit_62 ?_
              refine r_istoren4_2 cd_M_isFit_63 rfl ?_
              refine r_iinc4_3 cd_M_isFit_64 rfl ?_
              refine r_goto cd_M_isFit_67 ?_
              refine r_iload_n cd_M_isFit_21 rfl ?_
              refine r_aload_n cd_M_isFit_22 rfl ?_
              refine r_getfield cd_M_isFit_23 zr_O rfl ?_
              refine r_icmp_ge cd_M_isFit_26 ⟨by omega, by omega⟩ ⟨by omega, by omega⟩ (fun c_26 => ?_) (fun c_26 => ?_)
              · skip
                first | exact t70 _ | omega
              · skip
                refine r_iload_n cd_M_isFit_29 rfl ?_
                refine r_if_eq cd_M_isFit_30 ⟨by decide, by decide⟩ (fun _ => ?_) (fun c_30 => absurd c_30 (by decide))
                first | exact t70 _ | omega
            · skip
              omega
theorem irB_iff {code : Int} : irB code = true ↔ code % 16 < bShl 1 (code / 16) := by unfold irB; exact decide_eq_true_iff
def fiB (sh sd : List Int) (mn code : Int) : Bool := irB code && faB sh sd mn code 8 0
theorem sp_M_isFit {code : Int} (hR : SgR sv sh sd) (hO : SgOK sh sd rw mn fd) (c0 : 16 ≤ code) (c1 : code < 80) : Sp xs m_M_isFit [vR 40, vI code] (z40 c (rf mn mc sm om ga mr ma ax b v sv dv fa gr ng wy im kp)) (some (vI (bp (fiB sh sd mn code = true)))) (z40 c (rf mn mc sm om ga mr ma ax b v sv dv fa gr ng wy im kp)) := by
  have hn := hO.2.2.2.1
  have e1 : code.tmod 16 = code % 16 := Int.tmod_eq_emod_of_nonneg (by omega)
  have e2 : code.tdiv 16 = code / 16 := Int.tdiv_eq_ediv_of_nonneg (by omega)
  have hk := ir_k (code / 16).toNat (by omega)
  rw [show (((code / 16).toNat : Nat) : Int) = code / 16 by omega] at hk
  have e9 := lp_M_isFit (xs := xs) (c := c) (mc := mc) (sm := sm) (om := om) (ga := ga) (mr := mr) (ma := ma) (ax := ax) (b := b) (v := v) (dv := dv) (fa := fa) (gr := gr) (ng := ng) (wy := wy) (im := im) (kp := kp) hR hO c0 c1 8 0 (by omega) (by omega)
  have t70 : ∀ i', Rn xs m_M_isFit 70 [vR 40, vI code, vI 0, vI i'] [] (z40 c (rf mn mc sm om ga mr ma ax b v sv dv fa gr ng wy im kp)) (some (vI 0)) (z40 c (rf mn mc sm om ga mr ma ax b v sv dv fa gr ng wy im kp)) := by
    intro i'
    refine r_iload_n cd_M_isFit_70 rfl ?_
    exact r_zretc cd_M_isFit_71 rt_M_isFit (by decide) (by rfl) (by rfl)
  unfold fiB
  by_cases z : code % 16 < bShl 1 (code / 16)
  · have e0 := irB_iff.mpr z
    rw [e0, Bool.true_and]
    refine en_M_isFit ?_
    refine r_iload_n cd_M_isFit_0 rfl ?_
    refine r_bipush cd_M_isFit_1 ?_
    refine r_irem cd_M_isFit_3 ⟨by omega, by omega⟩ ⟨by decide, by decide⟩ (by decide) ?_
    refine r_iconst cd_M_isFit_4 ?_
    refine r_iload_n cd_M_isFit_5 rfl ?_
    refine r_bipush cd_M_isFit_6 ?_
    refine r_idiv cd_M_isFit_8 ⟨by omega, by omega⟩ ⟨by decide, by decide⟩ (by decide) ?_
    refine r_ishl cd_M_isFit_9 ?_
    refine r_icmp_ge cd_M_isFit_10 ⟨by first | (rw [e1]; omega) | (rw [e2]; omega), by first | (rw [e1]; omega) | (rw [e2]; omega)⟩ ⟨by first | (rw [e1]; omega) | (rw [e2]; omega), by first | (rw [e1]; omega) | (rw [e2]; omega)⟩ (fun c_10 => ?_) (fun c_10 => ?_)
    · skip
      (rw [e1, e2] at c_10; omega)
    · skip
      refine r_iconst cd_M_isFit_13 ?_
      refine r_goto cd_M_isFit_14 ?_
      refine r_istoren4_2 cd_M_isFit_18 rfl ?_
      refine r_iconst cd_M_isFit_19 ?_
      refine r_istoren4_3 cd_M_isFit_20 rfl ?_
      exact e9
  · have e0 : irB code = false := by
      cases h : irB code with
      | true => exact absurd (irB_iff.mp h) z
      | false => rfl
    rw [e0, Bool.false_and, bp_f (by decide)]
    refine en_M_isFit ?_
    refine r_iload_n cd_M_isFit_0 rfl ?_
    refine r_bipush cd_M_isFit_1 ?_
    refine r_irem cd_M_isFit_3 ⟨by omega, by omega⟩ ⟨by decide, by decide⟩ (by decide) ?_
    refine r_iconst cd_M_isFit_4 ?_
    refine r_iload_n cd_M_isFit_5 rfl ?_
    refine r_bipush cd_M_isFit_6 ?_
    refine r_idiv cd_M_isFit_8 ⟨by omega, by omega⟩ ⟨by decide, by decide⟩ (by decide) ?_
    refine r_ishl cd_M_isFit_9 ?_
    refine r_icmp_ge cd_M_isFit_10 ⟨by first | (rw [e1]; omega) | (rw [e2]; omega), by first | (rw [e1]; omega) | (rw [e2]; omega)⟩ ⟨by first | (rw [e1]; omega) | (rw [e2]; omega), by first | (rw [e1]; omega) | (rw [e2]; omega)⟩ (fun c_10 => ?_) (fun c_10 => ?_)
    · skip
      refine r_iconst cd_M_isFit_17 ?_
      refine r_istoren4_2 cd_M_isFit_18 rfl ?_
      refine r_iconst cd_M_isFit_19 ?_
      refine r_istoren4_3 cd_M_isFit_20 rfl ?_
      refine r_iload_n cd_M_isFit_21 rfl ?_
      refine r_aload_n cd_M_isFit_22 rfl ?_
      refine r_getfield cd_M_isFit_23 zr_O rfl ?_
      refine r_icmp_ge cd_M_isFit_26 ⟨by decide, by decide⟩ ⟨by omega, by omega⟩ (fun c_26 => ?_) (fun c_26 => ?_)
      · skip
        exact t70 _
      · skip
        refine r_iload_n cd_M_isFit_29 rfl ?_
        refine r_if_eq cd_M_isFit_30 ⟨by decide, by decide⟩ (fun _ => ?_) (fun c_30 => absurd c_30 (by decide))
        exact t70 _
    · skip
      (rw [e1, e2] at c_10; omega)
-- the rows that fit, a list
def flB (sh sd : List Int) (mn : Int) : Nat → Int → List Int
  | 0, _ => []
  | k + 1, row => if fiB sh sd mn row = true then row :: flB sh sd mn k (row + 1) else flB sh sd mn k (row + 1)
theorem flB_A : ∀ (k : Nat) (row : Int), flA sh sd mn k row = flB sh sd mn k row
  | 0, _ => rfl
  | k + 1, row => by
    unfold flA flB
    rw [flB_A k (row + 1)]
    by_cases z : fiB sh sd mn row = true
    · rw [if_pos z, if_pos (by unfold fiB at z; simpa using z)]
    · rw [if_neg z, if_neg (by unfold fiB at z; simpa using z)]
theorem flB_len : ∀ (k : Nat) (row : Int), (flB sh sd mn k row).length ≤ k
  | 0, _ => Nat.le_refl _
  | k + 1, row => by
    have := flB_len k (row + 1)
    unfold flB
    split
    · rw [List.length_cons]; omega
    · omega
def ftA (l : List Int) (i n : Int) : Int := if i = -1 then n + l.length else if n ≤ i ∧ i < n + l.length then at_ l (i - n) else -6
theorem lp_M_fits {i : Int} (hR : SgR sv sh sd) (hO : SgOK sh sd rw mn fd) (hi : inR i) : ∀ (k : Nat) (code n : Int), 16 ≤ code → code + k = 80 → 0 ≤ n → n ≤ code → Rn xs m_M_fits 5 [vR 40, vI i, vI n, vI code] [] (z40 c (rf mn mc sm om ga mr ma ax b v sv dv fa gr ng wy im kp)) (some (vI (ftA (flB sh sd mn k code) i n))) (z40 c (rf mn mc sm om ga mr ma ax b v sv dv fa gr ng wy im kp)) := by
  obtain ⟨i1, i2⟩ := id hi
  intro k
  induction k with
  | zero =>
    intro code n c0 c1 n0 n1
    unfold flB ftA
    refine r_iload_n cd_M_fits_5 rfl ?_
    refine r_bipush cd_M_fits_6 ?_
    refine r_icmp_ge cd_M_fits_8 ⟨by omega, by omega⟩ ⟨by decide, by decide⟩ (fun c_8 => ?_) (fun c_8 => ?_)
    · skip
      refine r_iload_n cd_M_fits_35 rfl ?_
      refine r_iconst cd_M_fits_36 ?_
      refine r_icmp_ne cd_M_fits_37 ⟨by omega, by omega⟩ ⟨by decide, by decide⟩ (fun c_37 => ?_) (fun c_37 => ?_)
      · skip
        refine r_bipush cd_M_fits_44 ?_
        exact r_iret cd_M_fits_46 rt_M_fits (by first | (rw [if_pos c_37]; done) | (rw [if_pos c_37]; simp; done) | (rw [if_neg c_37]; exact (if_neg (show ¬ (n ≤ i ∧ i < n + ((0 : Nat) : Int)) by omega)).symm)) (by rfl)
      · skip
        refine r_iload_n cd_M_fits_40 rfl ?_
        refine r_goto cd_M_fits_41 ?_
        exact r_iret cd_M_fits_46 rt_M_fits (by first | (rw [if_pos c_37]; done) | (rw [if_pos c_37]; simp; done) | (rw [if_neg c_37]; exact (if_neg (show ¬ (n ≤ i ∧ i < n + ((0 : Nat) : Int)) by omega)).symm)) (by rfl)
    · skip
      omega
  | succ k ih =>
    intro code n c0 c1 n0 n1
    have e9 := fun n h0 h1 => ih (code + 1) n (by omega) (by omega) h0 h1
    have hll : (flB sh sd mn k (code + 1)).length ≤ k := flB_len k (code + 1)
    by_cases z : fiB sh sd mn code = true
    · have e0 : flB sh sd mn (k + 1) code = code :: flB sh sd mn k (code + 1) := by (conv => lhs; unfold flB); rw [if_pos z]
      rw [e0]
      have e8 : i ≠ n → ftA (code :: flB sh sd mn k (code + 1)) i n = ftA (flB sh sd mn k (code + 1)) i (n + 1) := by
        intro q
        unfold ftA
        rw [List.length_cons]
        by_cases y : i = -1
        · rw [if_pos y, if_pos y]; omega
        · rw [if_neg y, if_neg y]
          by_cases x : n + 1 ≤ i ∧ i < n + 1 + (flB sh sd mn k (code + 1)).length
          · rw [if_pos (by omega), if_pos x, show i - n = (i - (n + 1)) + 1 by omega, at_cs (by omega)]
          · rw [if_neg (by omega), if_neg x]
      refine r_iload_n cd_M_fits_5 rfl ?_
      refine r_bipush cd_M_fits_6 ?_
      refine r_icmp_ge cd_M_fits_8 ⟨by omega, by omega⟩ ⟨by decide, by decide⟩ (fun c_8 => ?_) (fun c_8 => ?_)
      · skip
        omega
      · skip
        refine r_aload_n cd_M_fits_11 rfl ?_
        refine r_iload_n cd_M_fits_12 rfl ?_
        refine r_vv1 cd_M_fits_13 rfl ck_M_fits_M_isFit (Nat.le_of_ble_eq_true rfl) zr_O rfl (sp_M_isFit hR hO c0 (by omega)) ?_
        refine r_ifeq_p cd_M_fits_16 (fun c_16 => ?_) (fun c_16 => ?_)
        · skip
          refine r_iinc4_3 cd_M_fits_29 rfl ?_
          refine r_goto cd_M_fits_32 ?_
          first | exact absurd z c_16 | (rw [e8 (by omega)]; exact e9 _ (by omega) (by omega))
        · skip
          refine r_iload_n cd_M_fits_19 rfl ?_
          refine r_iload_n cd_M_fits_20 rfl ?_
          refine r_icmp_ne cd_M_fits_21 ⟨by omega, by omega⟩ ⟨by omega, by omega⟩ (fun c_21 => ?_) (fun c_21 => ?_)
          · skip
            refine r_iinc4_2 cd_M_fits_26 rfl ?_
            refine r_iinc4_3 cd_M_fits_29 rfl ?_
            refine r_goto cd_M_fits_32 ?_
            first | exact absurd z c_16 | (rw [e8 (by omega)]; exact e9 _ (by omega) (by omega))
          · skip
            refine r_iload_n cd_M_fits_24 rfl ?_
            exact r_iret cd_M_fits_25 rt_M_fits (by (unfold ftA; rw [List.length_cons, if_neg (by omega), if_pos (by omega), show i - n = 0 by omega]; rfl)) (by rfl)
    · have e0 : flB sh sd mn (k + 1) code = flB sh sd mn k (code + 1) := by (conv => lhs; unfold flB); rw [if_neg z]
      rw [e0]
      refine r_iload_n cd_M_fits_5 rfl ?_
      refine r_bipush cd_M_fits_6 ?_
      refine r_icmp_ge cd_M_fits_8 ⟨by omega, by omega⟩ ⟨by decide, by decide⟩ (fun c_8 => ?_) (fun c_8 => ?_)
      · skip
        omega
      · skip
        refine r_aload_n cd_M_fits_11 rfl ?_
        refine r_iload_n cd_M_fits_12 rfl ?_
        refine r_vv1 cd_M_fits_13 rfl ck_M_fits_M_isFit (Nat.le_of_ble_eq_true rfl) zr_O rfl (sp_M_isFit hR hO c0 (by omega)) ?_
        refine r_ifeq_p cd_M_fits_16 (fun c_16 => ?_) (fun c_16 => ?_)
        · skip
          refine r_iinc4_3 cd_M_fits_29 rfl ?_
          refine r_goto cd_M_fits_32 ?_
          exact e9 n n0 (by omega)
        · skip
          exact absurd c_16 z

def cQ (k : Nat) : Nat := ((List.range k).filter (fun j : Nat => irB ((80 - 1 - j : Nat) : Int))).length
theorem cQ_k : ∀ k : Nat, k < 64 → (irB ((80 - 1 - k : Nat) : Int) = true → cQ (k + 1) = cQ k + 1) ∧ cQ k ≤ cQ (k + 1) := by decide +kernel
theorem c30 : cQ 64 = 30 := by decide +kernel
theorem flB_le : ∀ (k : Nat) (row : Int), row + k = 80 → 16 ≤ row → (flB sh sd mn k row).length ≤ cQ k
  | 0, _, _, _ => Nat.zero_le _
  | k + 1, row, h, h2 => by
    have ih := flB_le k (row + 1) (by omega) (by omega)
    have q := cQ_k k (by omega)
    rw [show ((80 - 1 - k : Nat) : Int) = row by omega] at q
    unfold flB
    split
    · next z =>
      have : irB row = true := by unfold fiB at z; simp at z; exact z.1
      rw [List.length_cons]
      have := q.1 this
      omega
    · have := q.2
      omega
theorem fl64 (hO : SgOK sh sd rw mn fd) : (fnA sh sd mn 64 16 rw 0).2 = (flB sh sd mn 64 16).length ∧ (flB sh sd mn 64 16).length ≤ 30 ∧ ∀ j : Int, 0 ≤ j → j < (flB sh sd mn 64 16).length → at_ (fnA sh sd mn 64 16 rw 0).1 j = at_ (flB sh sd mn 64 16) j := by
  have hle := flB_le (sh := sh) (sd := sd) (mn := mn) 64 16 (by omega) (by omega)
  have e := fnA_fl (sh := sh) (sd := sd) (cn := mn) 64 16 0 rw (by omega) (by rw [flB_A, hO.2.2.1]; have := c30; omega)
  rw [flB_A] at e
  have := c30
  refine ⟨by rw [e.1]; omega, by omega, fun j j0 j1 => ?_⟩
  have := e.2.2.2 j j0 j1
  rw [Int.zero_add] at this
  exact this
theorem fi_eq {i : Int} (hO : SgOK sh sd rw mn fd) : fiA sh sd mn rw i = ftA (flB sh sd mn 64 16) i 0 := by
  obtain ⟨e1, e2, e3⟩ := fl64 hO
  unfold fiA ftA
  rw [e1]
  by_cases y : i = -1
  · rw [if_pos y, if_pos y]; omega
  · rw [if_neg y, if_neg y]
    by_cases x : 0 ≤ i ∧ i < (flB sh sd mn 64 16).length
    · rw [if_pos x, if_pos (by omega), e3 i x.1 x.2, Int.sub_zero]
    · rw [if_neg x, if_neg (by omega)]
theorem sp_M_fits {i : Int} (hJ : JL v fa gr ng wy) (hR : SgR sv sh sd) (hO : SgOK sh sd rw mn fd) (hi : inR i) : MSp xs m_M_fits [vR 40, vI i] (z40 c (rf mn mc sm om ga mr ma ax b v sv dv fa gr ng wy im kp)) (vI (fiA sh sd mn rw i)) c mn mc b sv dv im kp := by
  refine ⟨(z40 c (rf mn mc sm om ga mr ma ax b v sv dv fa gr ng wy im kp)), mj hJ, ?_⟩
  rw [fi_eq hO]
  have e9 := lp_M_fits (xs := xs) (c := c) (mc := mc) (sm := sm) (om := om) (ga := ga) (mr := mr) (ma := ma) (ax := ax) (b := b) (v := v) (dv := dv) (fa := fa) (gr := gr) (ng := ng) (wy := wy) (im := im) (kp := kp) hR hO hi 64 16 0 (by omega) (by omega) (by omega) (by omega)
  refine en_M_fits ?_
  refine r_iconst cd_M_fits_0 ?_
  refine r_istoren4_2 cd_M_fits_1 rfl ?_
  refine r_bipush cd_M_fits_2 ?_
  refine r_istoren4_3 cd_M_fits_4 rfl ?_
  exact e9
-- ask
def smA (shot : Int) : List Int → Int
  | [] => 0
  | x :: l => sdb x shot + smA shot l
theorem smA_bd {shot : Int} (s0 : 0 ≤ shot) : ∀ l : List Int, (∀ x, x ∈ l → 0 ≤ x ∧ x < 80) → 0 ≤ smA shot l ∧ smA shot l ≤ l.length
  | [], _ => by unfold smA; simp
  | x :: l, h => by
    have ih := smA_bd s0 l (fun y hy => h y (List.mem_cons_of_mem _ hy))
    have hx := h x List.mem_cons_self
    have q := sdb_bd (row := x) (shot := shot) hx.1 hx.2 s0
    unfold smA
    rw [List.length_cons]
    omega
theorem flB_mem : ∀ (k : Nat) (row x : Int), x ∈ flB sh sd mn k row → row ≤ x ∧ x < row + k
  | 0, row, x, h => by unfold flB at h; exact absurd h List.not_mem_nil
  | k + 1, row, x, h => by
    unfold flB at h
    split at h
    · rcases List.mem_cons.mp h with z | z
      · omega
      · have := flB_mem k (row + 1) x z; omega
    · have := flB_mem k (row + 1) x h; omega
theorem mlA_sm {rw : List Int} {shot fd : Int} : ∀ (k : Nat) (i s : Int) (l : List Int), 0 ≤ i → fd = i + l.length → l.length ≤ k → (∀ j : Int, 0 ≤ j → j < l.length → at_ rw (i + j) = at_ l j) → mlA rw fd shot k i s = s + smA shot l
  | 0, i, s, l, h0, h1, h2, h3 => by
    have : l = [] := List.eq_nil_of_length_eq_zero (by omega)
    subst this
    unfold mlA smA
    omega
  | k + 1, i, s, l, h0, h1, h2, h3 => by
    cases l with
    | nil =>
      unfold mlA smA
      rw [if_pos (by simp at h1; omega)]
      omega
    | cons x l =>
      rw [List.length_cons] at h1 h2 h3
      have e := h3 0 (by omega) (by omega)
      rw [Int.add_zero, at_c0] at e
      unfold mlA smA
      rw [if_neg (by omega), e, mlA_sm k (i + 1) _ l (by omega) (by omega) (by omega) (fun j j0 j1 => by
        have := h3 (j + 1) (by omega) (by omega)
        rw [at_cs j0] at this
        rw [show i + 1 + j = i + (j + 1) by omega]
        exact this)]
      omega
def wsA (l : List Int) (shot : Int) : Int := max (smA shot l) (l.length - smA shot l)
theorem ml_ws {shot : Int} (hO : SgOK sh sd rw mn fd) : mlf (fnA sh sd mn 64 16 rw 0).1 (fnA sh sd mn 64 16 rw 0).2 shot = wsA (flB sh sd mn 64 16) shot := by
  obtain ⟨e1, e2, e3⟩ := fl64 hO
  unfold mlf wsA
  rw [mlA_sm 30 0 0 (flB sh sd mn 64 16) (by omega) (by omega) e2 (fun j j0 j1 => by rw [Int.zero_add]; exact e3 j j0 j1), e1, Int.zero_add]
def bqA (l : List Int) : Nat → Int → Int → Int
  | 0, _, b => b
  | k + 1, s, b => bqA l k (s + 1) (if wsA l s < wsA l b then s else b)
theorem bs_bq (hO : SgOK sh sd rw mn fd) : ∀ (k : Nat) (s b : Int), bsA (fnA sh sd mn 64 16 rw 0).1 (fnA sh sd mn 64 16 rw 0).2 k s b = bqA (flB sh sd mn 64 16) k s b
  | 0, _, _ => rfl
  | k + 1, s, b => by
    unfold bsA bqA
    rw [ml_ws hO, ml_ws hO, bs_bq hO k]
theorem lp_M_cnt {shot w2 f3 : Int} {r : Option MV} {X : MH} {x8 : MV} (hR : SgR sv sh sd) (hO : SgOK sh sd rw mn fd) (s0 : 0 ≤ shot) (s1 : shot ≤ 60) {what : Int} : ∀ (k : Nat) (code n s : Int), 16 ≤ code → code + k = 80 → 0 ≤ n → n ≤ code → 0 ≤ s → s ≤ code → (∀ i', Rn xs m_M_ask 75 [vR 40, vI what, vI w2, vI f3, vI shot, vI (n + (flB sh sd mn k code).length), vI (s + smA shot (flB sh sd mn k code)), vI i', x8] [] (z40 c (rf mn mc sm om ga mr ma ax b v sv dv fa gr ng wy im kp)) r X) → Rn xs m_M_ask 38 [vR 40, vI what, vI w2, vI f3, vI shot, vI n, vI s, vI code, x8] [] (z40 c (rf mn mc sm om ga mr ma ax b v sv dv fa gr ng wy im kp)) r X := by
  intro k
  induction k with
  | zero =>
    intro code n s c0 c1 n0 n1 t0 t1 e
    unfold flB smA at e
    rw [show n + (([] : List Int).length : Nat) = n by simp, Int.add_zero] at e
    refine r_iload cd_M_ask_38 rfl ?_
    refine r_bipush cd_M_ask_40 ?_
    refine r_icmp_ge cd_M_ask_42 ⟨by omega, by omega⟩ ⟨by decide, by decide⟩ (fun c_42 => ?_) (fun c_42 => ?_)
    · skip
      exact e _
    · skip
      omega
  | succ k ih =>
    intro code n s c0 c1 n0 n1 t0 t1 e
    have q := sdb_bd (row := code) (shot := shot) (by omega) (by omega) s0
    by_cases z : fiB sh sd mn code = true
    · have e0 : flB sh sd mn (k + 1) code = code :: flB sh sd mn k (code + 1) := by (conv => lhs; unfold flB); rw [if_pos z]
      rw [e0, List.length_cons] at e
      have e9 := ih (code + 1) (n + 1) (s + sdb code shot) (by omega) (by omega) (by omega) (by omega) (by omega) (by omega) (fun i' => by
        have e8 := e i'
        unfold smA at e8
        rw [show n + (((flB sh sd mn k (code + 1)).length + 1 : Nat) : Int) = n + 1 + (flB sh sd mn k (code + 1)).length by omega, ← Int.add_assoc] at e8
        exact e8)
      refine r_iload cd_M_ask_38 rfl ?_
      refine r_bipush cd_M_ask_40 ?_
      refine r_icmp_ge cd_M_ask_42 ⟨by omega, by omega⟩ ⟨by decide, by decide⟩ (fun c_42 => ?_) (fun c_42 => ?_)
      · skip
        omega
      · skip
        refine r_aload_n cd_M_ask_45 rfl ?_
        refine r_iload cd_M_ask_46 rfl ?_
        refine r_vv1 cd_M_ask_48 rfl ck_M_ask_M_isFit (Nat.le_of_ble_eq_true rfl) zr_O rfl (sp_M_isFit hR hO c0 (by omega)) ?_
        refine r_ifeq_p cd_M_ask_51 (fun c_51 => ?_) (fun c_51 => ?_)
        · skip
          refine r_iinc9_7 cd_M_ask_69 rfl ?_
          refine r_goto cd_M_ask_72 ?_
          first | exact absurd z c_51 | exact e9
        · skip
          refine r_iinc9_5 cd_M_ask_54 rfl ?_
          refine r_iload cd_M_ask_57 rfl ?_
          refine r_iload cd_M_ask_59 rfl ?_
          refine r_iload cd_M_ask_61 rfl ?_
          refine r_cv2 cd_M_ask_63 rfl ck_M_ask_M_sideAt rfl (Nat.le_of_ble_eq_true rfl) (sp_M_sideAt c0 (by omega) s0 s1) ?_
          refine r_iadd cd_M_ask_66 ?_
          refine r_istore9_6 cd_M_ask_67 rfl ?_
          refine r_iinc9_7 cd_M_ask_69 rfl ?_
          refine r_goto cd_M_ask_72 ?_
          first | exact absurd z c_51 | exact e9
    · have e0 : flB sh sd mn (k + 1) code = flB sh sd mn k (code + 1) := by (conv => lhs; unfold flB); rw [if_neg z]
      rw [e0] at e
      have e9 := ih (code + 1) n s (by omega) (by omega) n0 (by omega) t0 (by omega) e
      refine r_iload cd_M_ask_38 rfl ?_
      refine r_bipush cd_M_ask_40 ?_
      refine r_icmp_ge cd_M_ask_42 ⟨by omega, by omega⟩ ⟨by decide, by decide⟩ (fun c_42 => ?_) (fun c_42 => ?_)
      · skip
        omega
      · skip
        refine r_aload_n cd_M_ask_45 rfl ?_
        refine r_iload cd_M_ask_46 rfl ?_
        refine r_vv1 cd_M_ask_48 rfl ck_M_ask_M_isFit (Nat.le_of_ble_eq_true rfl) zr_O rfl (sp_M_isFit hR hO c0 (by omega)) ?_
        refine r_ifeq_p cd_M_ask_51 (fun c_51 => ?_) (fun c_51 => ?_)
        · skip
          refine r_iinc9_7 cd_M_ask_69 rfl ?_
          refine r_goto cd_M_ask_72 ?_
          exact e9
        · skip
          exact absurd c_51 z
theorem lp_M_ask {what : Int} (hx : what = 0 ∨ what = 1) (hR : SgR sv sh sd) (hO : SgOK sh sd rw mn fd) (hne : flB sh sd mn 64 16 ≠ []) : ∀ (k : Nat) (shot best : Int) (x5 x6 x7 x8 : MV), 1 ≤ shot → shot + k = 61 → 0 ≤ best → best < shot → Rn xs m_M_ask 21 [vR 40, vI what, vI best, vI (wsA (flB sh sd mn 64 16) best), vI shot, x5, x6, x7, x8] [] (z40 c (rf mn mc sm om ga mr ma ax b v sv dv fa gr ng wy im kp)) (some (vI (if what = 0 then bqA (flB sh sd mn 64 16) k shot best else wsA (flB sh sd mn 64 16) (bqA (flB sh sd mn 64 16) k shot best)))) (z40 c (rf mn mc sm om ga mr ma ax b v sv dv fa gr ng wy im kp)) := by
  have hlen := flB_len (sh := sh) (sd := sd) (mn := mn) 64 16
  have hmem : ∀ x, x ∈ flB sh sd mn 64 16 → 0 ≤ x ∧ x < 80 := fun x h => by have := flB_mem 64 16 x h; omega
  have hpos : 0 < (flB sh sd mn 64 16).length := Nat.pos_of_ne_zero (fun q => hne (List.eq_nil_of_length_eq_zero q))
  intro k
  induction k with
  | zero =>
    intro shot best x5 x6 x7 x8 s0 s1 b0 b1
    have hs := smA_bd b0 (flB sh sd mn 64 16) hmem
    have hw : wsA (flB sh sd mn 64 16) best = max (smA best (flB sh sd mn 64 16)) ((flB sh sd mn 64 16).length - smA best (flB sh sd mn 64 16)) := rfl
    unfold bqA
    refine r_iload cd_M_ask_21 rfl ?_
    refine r_bipush cd_M_ask_23 ?_
    refine r_icmp_ge cd_M_ask_25 ⟨by omega, by omega⟩ ⟨by decide, by decide⟩ (fun c_25 => ?_) (fun c_25 => ?_)
    · skip
      refine r_iload_n cd_M_ask_145 rfl ?_
      refine r_if_lt cd_M_ask_146 ⟨by omega, by omega⟩ (fun c_146 => ?_) (fun c_146 => ?_)
      · skip
        refine r_iload_n cd_M_ask_153 rfl ?_
        refine r_goto cd_M_ask_154 ?_
        exact r_iret cd_M_ask_158 rt_M_ask (by first | (rw [if_pos (by omega)]; done) | (rw [if_neg (by omega)]; done)) (by rfl)
      · skip
        refine r_iload_n cd_M_ask_149 rfl ?_
        refine r_if_ne cd_M_ask_150 ⟨by omega, by omega⟩ (fun c_150 => ?_) (fun c_150 => ?_)
        · skip
          refine r_iload_n cd_M_ask_157 rfl ?_
          exact r_iret cd_M_ask_158 rt_M_ask (by first | (rw [if_pos (by omega)]; done) | (rw [if_neg (by omega)]; done)) (by rfl)
        · skip
          refine r_iload_n cd_M_ask_153 rfl ?_
          refine r_goto cd_M_ask_154 ?_
          exact r_iret cd_M_ask_158 rt_M_ask (by first | (rw [if_pos (by omega)]; done) | (rw [if_neg (by omega)]; done)) (by rfl)
    · skip
      omega
  | succ k ih =>
    intro shot best x5 x6 x7 x8 s0 s1 b0 b1
    have hs := smA_bd (shot := shot) (by omega) (flB sh sd mn 64 16) hmem
    have hs2 := smA_bd b0 (flB sh sd mn 64 16) hmem
    have hw : wsA (flB sh sd mn 64 16) best = max (smA best (flB sh sd mn 64 16)) ((flB sh sd mn 64 16).length - smA best (flB sh sd mn 64 16)) := rfl
    have hw2 : wsA (flB sh sd mn 64 16) shot = max (smA shot (flB sh sd mn 64 16)) ((flB sh sd mn 64 16).length - smA shot (flB sh sd mn 64 16)) := rfl
    have IH := fun (bb : Int) (x5 x6 x7 x8 : MV) (h0 : 0 ≤ bb) (h1 : bb < shot + 1) => ih (shot + 1) bb x5 x6 x7 x8 (by omega) (by omega) h0 h1
    have e0 : bqA (flB sh sd mn 64 16) (k + 1) shot best = bqA (flB sh sd mn 64 16) k (shot + 1) (if wsA (flB sh sd mn 64 16) shot < wsA (flB sh sd mn 64 16) best then shot else best) := rfl
    rw [e0]
    have t75 : ∀ i', Rn xs m_M_ask 75 [vR 40, vI what, vI best, vI (wsA (flB sh sd mn 64 16) best), vI shot, vI ((flB sh sd mn 64 16).length), vI (smA shot (flB sh sd mn 64 16)), vI i', x8] [] (z40 c (rf mn mc sm om ga mr ma ax b v sv dv fa gr ng wy im kp)) (some (vI (if what = 0 then bqA (flB sh sd mn 64 16) k (shot + 1) (if wsA (flB sh sd mn 64 16) shot < wsA (flB sh sd mn 64 16) best then shot else best) else wsA (flB sh sd mn 64 16) (bqA (flB sh sd mn 64 16) k (shot + 1) (if wsA (flB sh sd mn 64 16) shot < wsA (flB sh sd mn 64 16) best then shot else best))))) (z40 c (rf mn mc sm om ga mr ma ax b v sv dv fa gr ng wy im kp)) := by
      intro i'
      have t95 : ∀ x y, x = wsA (flB sh sd mn 64 16) shot → Rn xs m_M_ask 95 [vR 40, vI what, vI best, vI (wsA (flB sh sd mn 64 16) best), vI shot, vI ((flB sh sd mn 64 16).length), vI (smA shot (flB sh sd mn 64 16)), y, x8] [vI x] (z40 c (rf mn mc sm om ga mr ma ax b v sv dv fa gr ng wy im kp)) (some (vI (if what = 0 then bqA (flB sh sd mn 64 16) k (shot + 1) (if wsA (flB sh sd mn 64 16) shot < wsA (flB sh sd mn 64 16) best then shot else best) else wsA (flB sh sd mn 64 16) (bqA (flB sh sd mn 64 16) k (shot + 1) (if wsA (flB sh sd mn 64 16) shot < wsA (flB sh sd mn 64 16) best then shot else best))))) (z40 c (rf mn mc sm om ga mr ma ax b v sv dv fa gr ng wy im kp)) := by
        intro x y hx
        subst hx
        by_cases q : wsA (flB sh sd mn 64 16) shot < wsA (flB sh sd mn 64 16) best
        · skip
          rw [if_pos q]
          refine r_istore9_7 cd_M_ask_95 rfl ?_
          refine r_iload cd_M_ask_97 rfl ?_
          refine r_if_le cd_M_ask_99 ⟨by omega, by omega⟩ (fun c_99 => ?_) (fun c_99 => ?_)
          · skip
            omega
          · skip
            refine r_iload cd_M_ask_102 rfl ?_
            refine r_iload_n cd_M_ask_104 rfl ?_
            refine r_icmp_ge cd_M_ask_105 ⟨by omega, by omega⟩ ⟨by omega, by omega⟩ (fun c_105 => ?_) (fun c_105 => ?_)
            · skip
              omega
            · skip
              refine r_iconst cd_M_ask_108 ?_
              refine r_goto cd_M_ask_109 ?_
              refine r_istore9_8 cd_M_ask_113 rfl ?_
              refine r_iload cd_M_ask_115 rfl ?_
              refine r_if_eq cd_M_ask_117 ⟨by decide, by decide⟩ (fun c_117 => absurd c_117 (by decide)) (fun _ => ?_)
              refine r_iload cd_M_ask_120 rfl ?_
              refine r_goto cd_M_ask_122 ?_
              refine r_istoren9_2 cd_M_ask_126 rfl ?_
              refine r_iload cd_M_ask_127 rfl ?_
              refine r_if_eq cd_M_ask_129 ⟨by decide, by decide⟩ (fun c_129 => absurd c_129 (by decide)) (fun _ => ?_)
              refine r_iload cd_M_ask_132 rfl ?_
              refine r_goto cd_M_ask_134 ?_
              refine r_istoren9_3 cd_M_ask_138 rfl ?_
              refine r_iinc9_4 cd_M_ask_139 rfl ?_
              refine r_goto cd_M_ask_142 ?_
              exact IH shot _ _ _ _ (by omega) (by omega)
        · skip
          rw [if_neg q]
          refine r_istore9_7 cd_M_ask_95 rfl ?_
          refine r_iload cd_M_ask_97 rfl ?_
          refine r_if_le cd_M_ask_99 ⟨by omega, by omega⟩ (fun c_99 => ?_) (fun c_99 => ?_)
          · skip
            refine r_iconst cd_M_ask_112 ?_
            refine r_istore9_8 cd_M_ask_113 rfl ?_
            refine r_iload cd_M_ask_115 rfl ?_
            refine r_if_eq cd_M_ask_117 ⟨by decide, by decide⟩ (fun _ => ?_) (fun c_117 => absurd c_117 (by decide))
            refine r_iload_n cd_M_ask_125 rfl ?_
            refine r_istoren9_2 cd_M_ask_126 rfl ?_
            refine r_iload cd_M_ask_127 rfl ?_
            refine r_if_eq cd_M_ask_129 ⟨by decide, by decide⟩ (fun _ => ?_) (fun c_129 => absurd c_129 (by decide))
            refine r_iload_n cd_M_ask_137 rfl ?_
            refine r_istoren9_3 cd_M_ask_138 rfl ?_
            refine r_iinc9_4 cd_M_ask_139 rfl ?_
            refine r_goto cd_M_ask_142 ?_
            exact IH best _ _ _ _ (by omega) (by omega)
          · skip
            refine r_iload cd_M_ask_102 rfl ?_
            refine r_iload_n cd_M_ask_104 rfl ?_
            refine r_icmp_ge cd_M_ask_105 ⟨by omega, by omega⟩ ⟨by omega, by omega⟩ (fun c_105 => ?_) (fun c_105 => ?_)
            · skip
              refine r_iconst cd_M_ask_112 ?_
              refine r_istore9_8 cd_M_ask_113 rfl ?_
              refine r_iload cd_M_ask_115 rfl ?_
              refine r_if_eq cd_M_ask_117 ⟨by decide, by decide⟩ (fun _ => ?_) (fun c_117 => absurd c_117 (by decide))
              refine r_iload_n cd_M_ask_125 rfl ?_
              refine r_istoren9_2 cd_M_ask_126 rfl ?_
              refine r_iload cd_M_ask_127 rfl ?_
              refine r_if_eq cd_M_ask_129 ⟨by decide, by decide⟩ (fun _ => ?_) (fun c_129 => absurd c_129 (by decide))
              refine r_iload_n cd_M_ask_137 rfl ?_
              refine r_istoren9_3 cd_M_ask_138 rfl ?_
              refine r_iinc9_4 cd_M_ask_139 rfl ?_
              refine r_goto cd_M_ask_142 ?_
              exact IH best _ _ _ _ (by omega) (by omega)
            · skip
              omega
      refine r_iload cd_M_ask_75 rfl ?_
      refine r_iload cd_M_ask_77 rfl ?_
      refine r_iload cd_M_ask_79 rfl ?_
      refine r_isub cd_M_ask_81 ?_
      refine r_icmp_le cd_M_ask_82 ⟨by omega, by omega⟩ ⟨by omega, by omega⟩ (fun c_82 => ?_) (fun c_82 => ?_)
      · skip
        refine r_iload cd_M_ask_90 rfl ?_
        refine r_iload cd_M_ask_92 rfl ?_
        refine r_isub cd_M_ask_94 ?_
        exact t95 _ _ (by omega)
      · skip
        refine r_iload cd_M_ask_85 rfl ?_
        refine r_goto cd_M_ask_87 ?_
        exact t95 _ _ (by omega)
    have e9 := lp_M_cnt (xs := xs) (c := c) (mc := mc) (sm := sm) (om := om) (ga := ga) (mr := mr) (ma := ma) (ax := ax) (b := b) (v := v) (dv := dv) (fa := fa) (gr := gr) (ng := ng) (wy := wy) (im := im) (kp := kp) (what := what) (w2 := best) (f3 := wsA (flB sh sd mn 64 16) best) (x8 := x8) hR hO (by omega : 0 ≤ shot) (by omega) 64 16 0 0 (by omega) (by omega) (by omega) (by omega) (by omega) (by omega) (by rw [Int.zero_add, Int.zero_add]; exact t75)
    refine r_iload cd_M_ask_21 rfl ?_
    refine r_bipush cd_M_ask_23 ?_
    refine r_icmp_ge cd_M_ask_25 ⟨by omega, by omega⟩ ⟨by decide, by decide⟩ (fun c_25 => ?_) (fun c_25 => ?_)
    · skip
      omega
    · skip
      refine r_iconst cd_M_ask_28 ?_
      refine r_istore9_5 cd_M_ask_29 rfl ?_
      refine r_iconst cd_M_ask_31 ?_
      refine r_istore9_6 cd_M_ask_32 rfl ?_
      refine r_bipush cd_M_ask_34 ?_
      refine r_istore9_7 cd_M_ask_36 rfl ?_
      exact e9
theorem lp_M_ask0 {what : Int} (hx : what = 0 ∨ what = 1) (hR : SgR sv sh sd) (hO : SgOK sh sd rw mn fd) (hne : flB sh sd mn 64 16 = []) : ∀ (k : Nat) (shot : Int) (x5 x6 x7 x8 : MV), 0 ≤ shot → shot + k = 61 → Rn xs m_M_ask 21 [vR 40, vI what, vI (-6), vI 1000000, vI shot, x5, x6, x7, x8] [] (z40 c (rf mn mc sm om ga mr ma ax b v sv dv fa gr ng wy im kp)) (some (vI (-6))) (z40 c (rf mn mc sm om ga mr ma ax b v sv dv fa gr ng wy im kp)) := by
  intro k
  induction k with
  | zero =>
    intro shot x5 x6 x7 x8 s0 s1
    refine r_iload cd_M_ask_21 rfl ?_
    refine r_bipush cd_M_ask_23 ?_
    refine r_icmp_ge cd_M_ask_25 ⟨by omega, by omega⟩ ⟨by decide, by decide⟩ (fun c_25 => ?_) (fun c_25 => ?_)
    · skip
      refine r_iload_n cd_M_ask_145 rfl ?_
      refine r_if_lt cd_M_ask_146 ⟨by decide, by decide⟩ (fun _ => ?_) (fun c_146 => absurd c_146 (by decide))
      refine r_iload_n cd_M_ask_153 rfl ?_
      refine r_goto cd_M_ask_154 ?_
      exact r_iret cd_M_ask_158 rt_M_ask (by rfl) (by rfl)
    · skip
      omega
  | succ k ih =>
    intro shot x5 x6 x7 x8 s0 s1
    have IH := fun (x5 x6 x7 x8 : MV) => ih (shot + 1) x5 x6 x7 x8 (by omega) (by omega)
    have t75 : ∀ i', Rn xs m_M_ask 75 [vR 40, vI what, vI (-6), vI 1000000, vI shot, vI 0, vI 0, vI i', x8] [] (z40 c (rf mn mc sm om ga mr ma ax b v sv dv fa gr ng wy im kp)) (some (vI (-6))) (z40 c (rf mn mc sm om ga mr ma ax b v sv dv fa gr ng wy im kp)) := by
      intro i'
      refine r_iload cd_M_ask_75 rfl ?_
      refine r_iload cd_M_ask_77 rfl ?_
      refine r_iload cd_M_ask_79 rfl ?_
      refine r_isub cd_M_ask_81 ?_
      refine r_icmp_le cd_M_ask_82 ⟨by decide, by decide⟩ ⟨by omega, by omega⟩ (fun c_82 => ?_) (fun c_82 => ?_)
      · skip
        refine r_iload cd_M_ask_90 rfl ?_
        refine r_iload cd_M_ask_92 rfl ?_
        refine r_isub cd_M_ask_94 ?_
        refine r_istore9_7 cd_M_ask_95 rfl ?_
        refine r_iload cd_M_ask_97 rfl ?_
        refine r_if_le cd_M_ask_99 ⟨by decide, by decide⟩ (fun _ => ?_) (fun c_99 => absurd c_99 (by decide))
        refine r_iconst cd_M_ask_112 ?_
        refine r_istore9_8 cd_M_ask_113 rfl ?_
        refine r_iload cd_M_ask_115 rfl ?_
        refine r_if_eq cd_M_ask_117 ⟨by decide, by decide⟩ (fun _ => ?_) (fun c_117 => absurd c_117 (by decide))
        refine r_iload_n cd_M_ask_125 rfl ?_
        refine r_istoren9_2 cd_M_ask_126 rfl ?_
        refine r_iload cd_M_ask_127 rfl ?_
        refine r_if_eq cd_M_ask_129 ⟨by decide, by decide⟩ (fun _ => ?_) (fun c_129 => absurd c_129 (by decide))
        refine r_iload_n cd_M_ask_137 rfl ?_
        refine r_istoren9_3 cd_M_ask_138 rfl ?_
        refine r_iinc9_4 cd_M_ask_139 rfl ?_
        refine r_goto cd_M_ask_142 ?_
        exact IH _ _ _ _
      · skip
        refine r_iload cd_M_ask_85 rfl ?_
        refine r_goto cd_M_ask_87 ?_
        refine r_istore9_7 cd_M_ask_95 rfl ?_
        refine r_iload cd_M_ask_97 rfl ?_
        refine r_if_le cd_M_ask_99 ⟨by decide, by decide⟩ (fun _ => ?_) (fun c_99 => absurd c_99 (by decide))
        refine r_iconst cd_M_ask_112 ?_
        refine r_istore9_8 cd_M_ask_113 rfl ?_
        refine r_iload cd_M_ask_115 rfl ?_
        refine r_if_eq cd_M_ask_117 ⟨by decide, by decide⟩ (fun _ => ?_) (fun c_117 => absurd c_117 (by decide))
        refine r_iload_n cd_M_ask_125 rfl ?_
        refine r_istoren9_2 cd_M_ask_126 rfl ?_
        refine r_iload cd_M_ask_127 rfl ?_
        refine r_if_eq cd_M_ask_129 ⟨by decide, by decide⟩ (fun _ => ?_) (fun c_129 => absurd c_129 (by decide))
        refine r_iload_n cd_M_ask_137 rfl ?_
        refine r_istoren9_3 cd_M_ask_138 rfl ?_
        refine r_iinc9_4 cd_M_ask_139 rfl ?_
        refine r_goto cd_M_ask_142 ?_
        exact IH _ _ _ _
    have e9 := lp_M_cnt (xs := xs) (c := c) (mc := mc) (sm := sm) (om := om) (ga := ga) (mr := mr) (ma := ma) (ax := ax) (b := b) (v := v) (dv := dv) (fa := fa) (gr := gr) (ng := ng) (wy := wy) (im := im) (kp := kp) (what := what) (w2 := -6) (f3 := 1000000) (x8 := x8) hR hO (by omega : 0 ≤ shot) (by omega) 64 16 0 0 (by omega) (by omega) (by omega) (by omega) (by omega) (by omega) (by rw [hne]; exact t75)
    refine r_iload cd_M_ask_21 rfl ?_
    refine r_bipush cd_M_ask_23 ?_
    refine r_icmp_ge cd_M_ask_25 ⟨by omega, by omega⟩ ⟨by decide, by decide⟩ (fun c_25 => ?_) (fun c_25 => ?_)
    · skip
      omega
    · skip
      refine r_iconst cd_M_ask_28 ?_
      refine r_istore9_5 cd_M_ask_29 rfl ?_
      refine r_iconst cd_M_ask_31 ?_
      refine r_istore9_6 cd_M_ask_32 rfl ?_
      refine r_bipush cd_M_ask_34 ?_
      refine r_istore9_7 cd_M_ask_36 rfl ?_
      exact e9
theorem sp_M_ask {what : Int} (hJ : JL v fa gr ng wy) (hR : SgR sv sh sd) (hO : SgOK sh sd rw mn fd) (hx : inR what) : MSp xs m_M_ask [vR 40, vI what] (z40 c (rf mn mc sm om ga mr ma ax b v sv dv fa gr ng wy im kp)) (vI (asA sh sd mn rw what)) c mn mc b sv dv im kp := by
  refine ⟨(z40 c (rf mn mc sm om ga mr ma ax b v sv dv fa gr ng wy im kp)), mj hJ, ?_⟩
  obtain ⟨e1, e2, e3⟩ := fl64 hO
  unfold asA
  by_cases z0 : what = 0 ∨ what = 1
  · rw [if_pos z0]
    by_cases z1 : flB sh sd mn 64 16 = []
    · rw [e1, z1, if_pos (by rfl)]
      have e9 := fun x5 x6 x7 x8 => lp_M_ask0 (xs := xs) (c := c) (mc := mc) (sm := sm) (om := om) (ga := ga) (mr := mr) (ma := ma) (ax := ax) (b := b) (v := v) (dv := dv) (fa := fa) (gr := gr) (ng := ng) (wy := wy) (im := im) (kp := kp) z0 hR hO z1 61 0 x5 x6 x7 x8 (by omega) (by omega)
      refine en_M_ask ?_
      refine r_iload_n cd_M_ask_0 rfl ?_
      refine r_iconst cd_M_ask_1 ?_
      refine r_iconst cd_M_ask_2 ?_
      refine r_cv3 cd_M_ask_3 rfl ck_M_ask_M_in rfl (Nat.le_of_ble_eq_true rfl) (sp_M_in hx ⟨by decide, by decide⟩ ⟨by decide, by decide⟩) ?_
      refine r_ifne_p cd_M_ask_6 (fun c_6 => ?_) (fun c_6 => ?_)
      · skip
        refine r_bipush cd_M_ask_12 ?_
        refine r_istoren9_2 cd_M_ask_14 rfl ?_
        refine r_ldc cd_M_ask_15 ?_
        refine r_istoren9_3 cd_M_ask_17 rfl ?_
        refine r_iconst cd_M_ask_18 ?_
        refine r_istore9_4 cd_M_ask_19 rfl ?_
        exact e9 _ _ _ _
      · skip
        refine r_bipush cd_M_ask_9 ?_
        omega
    · have hpos : 0 < (flB sh sd mn 64 16).length := Nat.pos_of_ne_zero (fun q => z1 (List.eq_nil_of_length_eq_zero q))
      rw [if_neg (by omega), bs_bq hO, ml_ws hO]
      have hmem : ∀ x, x ∈ flB sh sd mn 64 16 → 0 ≤ x ∧ x < 80 := fun x h => by have := flB_mem 64 16 x h; omega
      have hs := smA_bd (shot := 0) (by omega) (flB sh sd mn 64 16) hmem
      have hw : wsA (flB sh sd mn 64 16) 0 = max (smA 0 (flB sh sd mn 64 16)) ((flB sh sd mn 64 16).length - smA 0 (flB sh sd mn 64 16)) := rfl
      have IH := fun (x5 x6 x7 x8 : MV) => lp_M_ask (xs := xs) (c := c) (mc := mc) (sm := sm) (om := om) (ga := ga) (mr := mr) (ma := ma) (ax := ax) (b := b) (v := v) (dv := dv) (fa := fa) (gr := gr) (ng := ng) (wy := wy) (im := im) (kp := kp) z0 hR hO z1 60 1 0 x5 x6 x7 x8 (by omega) (by omega) (by omega) (by omega)
      have t75 : ∀ i', Rn xs m_M_ask 75 [vR 40, vI what, vI (-6), vI 1000000, vI 0, vI ((flB sh sd mn 64 16).length), vI (smA 0 (flB sh sd mn 64 16)), vI i', vU] [] (z40 c (rf mn mc sm om ga mr ma ax b v sv dv fa gr ng wy im kp)) (some (vI (if what = 0 then bqA (flB sh sd mn 64 16) 60 1 0 else wsA (flB sh sd mn 64 16) (bqA (flB sh sd mn 64 16) 60 1 0)))) (z40 c (rf mn mc sm om ga mr ma ax b v sv dv fa gr ng wy im kp)) := by
        intro i'
        have t95 : ∀ x y, x = wsA (flB sh sd mn 64 16) 0 → Rn xs m_M_ask 95 [vR 40, vI what, vI (-6), vI 1000000, vI 0, vI ((flB sh sd mn 64 16).length), vI (smA 0 (flB sh sd mn 64 16)), y, vU] [vI x] (z40 c (rf mn mc sm om ga mr ma ax b v sv dv fa gr ng wy im kp)) (some (vI (if what = 0 then bqA (flB sh sd mn 64 16) 60 1 0 else wsA (flB sh sd mn 64 16) (bqA (flB sh sd mn 64 16) 60 1 0)))) (z40 c (rf mn mc sm om ga mr ma ax b v sv dv fa gr ng wy im kp)) := by
          intro x y hx
          subst hx
          refine r_istore9_7 cd_M_ask_95 rfl ?_
          refine r_iload cd_M_ask_97 rfl ?_
          refine r_if_le cd_M_ask_99 ⟨by omega, by omega⟩ (fun c_99 => ?_) (fun c_99 => ?_)
          · skip
            omega
          · skip
            refine r_iload cd_M_ask_102 rfl ?_
            refine r_iload_n cd_M_ask_104 rfl ?_
            refine r_icmp_ge cd_M_ask_105 ⟨by omega, by omega⟩ ⟨by omega, by omega⟩ (fun c_105 => ?_) (fun c_105 => ?_)
            · skip
              omega
            · skip
              refine r_iconst cd_M_ask_108 ?_
              refine r_goto cd_M_ask_109 ?_
              refine r_istore9_8 cd_M_ask_113 rfl ?_
              refine r_iload cd_M_ask_115 rfl ?_
              refine r_if_eq cd_M_ask_117 ⟨by decide, by decide⟩ (fun c_117 => absurd c_117 (by decide)) (fun _ => ?_)
              refine r_iload cd_M_ask_120 rfl ?_
              refine r_goto cd_M_ask_122 ?_
              refine r_istoren9_2 cd_M_ask_126 rfl ?_
              refine r_iload cd_M_ask_127 rfl ?_
              refine r_if_eq cd_M_ask_129 ⟨by decide, by decide⟩ (fun c_129 => absurd c_129 (by decide)) (fun _ => ?_)
              refine r_iload cd_M_ask_132 rfl ?_
              refine r_goto cd_M_ask_134 ?_
              refine r_istoren9_3 cd_M_ask_138 rfl ?_
              refine r_iinc9_4 cd_M_ask_139 rfl ?_
              refine r_goto cd_M_ask_142 ?_
              exact IH _ _ _ _
        refine r_iload cd_M_ask_75 rfl ?_
        refine r_iload cd_M_ask_77 rfl ?_
        refine r_iload cd_M_ask_79 rfl ?_
        refine r_isub cd_M_ask_81 ?_
        refine r_icmp_le cd_M_ask_82 ⟨by omega, by omega⟩ ⟨by omega, by omega⟩ (fun c_82 => ?_) (fun c_82 => ?_)
        · skip
          refine r_iload cd_M_ask_90 rfl ?_
          refine r_iload cd_M_ask_92 rfl ?_
          refine r_isub cd_M_ask_94 ?_
          exact t95 _ _ (by omega)
        · skip
          refine r_iload cd_M_ask_85 rfl ?_
          refine r_goto cd_M_ask_87 ?_
          exact t95 _ _ (by omega)
      have e9 := lp_M_cnt (xs := xs) (c := c) (mc := mc) (sm := sm) (om := om) (ga := ga) (mr := mr) (ma := ma) (ax := ax) (b := b) (v := v) (dv := dv) (fa := fa) (gr := gr) (ng := ng) (wy := wy) (im := im) (kp := kp) (what := what) (w2 := -6) (f3 := 1000000) (x8 := vU) hR hO (by omega : (0 : Int) ≤ 0) (by omega) 64 16 0 0 (by omega) (by omega) (by omega) (by omega) (by omega) (by omega) (by rw [Int.zero_add, Int.zero_add]; exact t75)
      refine en_M_ask ?_
      refine r_iload_n cd_M_ask_0 rfl ?_
      refine r_iconst cd_M_ask_1 ?_
      refine r_iconst cd_M_ask_2 ?_
      refine r_cv3 cd_M_ask_3 rfl ck_M_ask_M_in rfl (Nat.le_of_ble_eq_true rfl) (sp_M_in hx ⟨by decide, by decide⟩ ⟨by decide, by decide⟩) ?_
      refine r_ifne_p cd_M_ask_6 (fun c_6 => ?_) (fun c_6 => ?_)
      · skip
        refine r_bipush cd_M_ask_12 ?_
        refine r_istoren9_2 cd_M_ask_14 rfl ?_
        refine r_ldc cd_M_ask_15 ?_
        refine r_istoren9_3 cd_M_ask_17 rfl ?_
        refine r_iconst cd_M_ask_18 ?_
        refine r_istore9_4 cd_M_ask_19 rfl ?_
        refine r_iload cd_M_ask_21 rfl ?_
        refine r_bipush cd_M_ask_23 ?_
        refine r_icmp_ge cd_M_ask_25 ⟨by decide, by decide⟩ ⟨by decide, by decide⟩ (fun c_25 => absurd c_25 (by decide)) (fun _ => ?_)
        refine r_iconst cd_M_ask_28 ?_
        refine r_istore9_5 cd_M_ask_29 rfl ?_
        refine r_iconst cd_M_ask_31 ?_
        refine r_istore9_6 cd_M_ask_32 rfl ?_
        refine r_bipush cd_M_ask_34 ?_
        refine r_istore9_7 cd_M_ask_36 rfl ?_
        exact e9
      · skip
        refine r_bipush cd_M_ask_9 ?_
        omega
  · rw [if_neg z0]
    refine en_M_ask ?_
    refine r_iload_n cd_M_ask_0 rfl ?_
    refine r_iconst cd_M_ask_1 ?_
    refine r_iconst cd_M_ask_2 ?_
    refine r_cv3 cd_M_ask_3 rfl ck_M_ask_M_in rfl (Nat.le_of_ble_eq_true rfl) (sp_M_in hx ⟨by decide, by decide⟩ ⟨by decide, by decide⟩) ?_
    refine r_ifne_p cd_M_ask_6 (fun c_6 => ?_) (fun c_6 => ?_)
    · skip
      omega
    · skip
      refine r_bipush cd_M_ask_9 ?_
      exact r_iret cd_M_ask_11 rt_M_ask (by rfl) (by rfl)
end C74
