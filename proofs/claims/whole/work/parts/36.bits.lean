-- copies of rows and tables, sets of shots as bits
section C36
variable {xs : List Int} {h : MH} {t : Nat} {w : List Int}
theorem o32 {a : Nat} (ha : a < 2147483648) : (Int32.ofInt (a : Int)).toBitVec = BitVec.ofNat 32 a := by
  rw [Int32.toBitVec_ofInt]
  apply BitVec.eq_of_toNat_eq
  rw [BitVec.toNat_ofInt, BitVec.toNat_ofNat]
  omega
theorem t32 {a : Nat} (ha : a < 2147483648) : (BitVec.ofNat 32 a).toInt = (a : Int) := by
  rw [BitVec.toInt_eq_toNat_cond, BitVec.toNat_ofNat]
  split <;> omega
theorem bOr_nat {a b : Nat} (ha : a < 2147483648) (hb : b < 2147483648) : bOr (a : Int) (b : Int) = ((a ||| b : Nat) : Int) := by
  unfold bOr
  rw [← Int32.toInt_toBitVec, Int32.toBitVec_or, o32 ha, o32 hb, ← BitVec.ofNat_or]
  exact t32 (Nat.or_lt_two_pow (n := 31) ha hb)
theorem bAnd_nat {a b : Nat} (ha : a < 2147483648) (hb : b < 2147483648) : bAnd (a : Int) (b : Int) = ((a &&& b : Nat) : Int) := by
  unfold bAnd
  rw [← Int32.toInt_toBitVec, Int32.toBitVec_and, o32 ha, o32 hb, ← BitVec.ofNat_and]
  exact t32 (Nat.and_lt_two_pow (n := 31) a hb)
def bsN (P : Int → Bool) : Nat → Nat
  | 0 => 0
  | n + 1 => bsN P n + (if P ((n : Int) - 9) = true then 2 ^ n else 0)
theorem bsN_lt (P : Int → Bool) : ∀ n, bsN P n < 2 ^ n
  | 0 => by unfold bsN; omega
  | n + 1 => by
    have := bsN_lt P n
    unfold bsN
    split <;> (rw [Nat.pow_succ]; omega)
theorem p19 {n : Nat} (hn : n ≤ 19) : 2 ^ n ≤ 524288 := Nat.pow_le_pow_right (n := 2) (by omega) hn
theorem bsN_t {P : Int → Bool} {n : Nat} (hn : n < 19) (hp : P ((n : Int) - 9) = true) : ((bsN P (n + 1) : Nat) : Int) = bOr (bsN P n : Nat) ((2 ^ n : Nat) : Int) := by
  have h1 := bsN_lt P n
  have h2 := p19 (Nat.le_of_lt hn)
  rw [bOr_nat (by omega) (by omega), bsN, if_pos hp]
  have := Nat.two_pow_add_eq_or_of_lt h1 1
  rw [Nat.mul_one] at this
  rw [Nat.add_comm, this, Nat.or_comm]
theorem bsN_f {P : Int → Bool} {n : Nat} (hp : ¬ P ((n : Int) - 9) = true) : ((bsN P (n + 1) : Nat) : Int) = (bsN P n : Nat) := by
  rw [bsN, if_neg hp, Nat.add_zero]
theorem shl_k : ∀ n : Nat, n < 19 → bShl 1 ((n : Int) - 9 + 9) = ((2 ^ n : Nat) : Int) := by decide +kernel
theorem sp_shotBit {n : Nat} (hn : n < 19) : Sp xs m_F_shotBit [vI ((n : Int) - 9)] h (some (vI ((2 ^ n : Nat) : Int))) h := by
  refine en_F_shotBit ?_
  refine r_iconst cd_F_shotBit_0 ?_
  refine r_iload_n cd_F_shotBit_1 rfl ?_
  refine r_bipush cd_F_shotBit_2 ?_
  refine r_iadd cd_F_shotBit_4 ?_
  refine r_ishl cd_F_shotBit_5 ?_
  exact r_iret cd_F_shotBit_6 rt_F_shotBit (by exact shl_k n hn) (by rfl)
def gls (w : List Int) (d : Int) : Bool := glB (bp0 w) d (sid (at_ w 16)) (at_ w 16)
theorem lp_shotsToGoal (hT : TabAt h t w) (hw : WF w) (ha : at_ w 16 ≠ -6) : ∀ (k n : Nat), n + k = 19 → Rn xs m_Table_shotsToGoal 10 [vR t, vI (bp0 w), vI (bsN (gls w) n : Nat), vI ((n : Int) - 9)] [] h (some (vI (bsN (gls w) 19 : Nat))) h := by
  intro k
  have hp := bp0_bd hw ha
  induction k with
  | zero =>
    intro n h1
    have : n = 19 := by omega
    subst this
    refine r_iload_n cd_Table_shotsToGoal_10 rfl ?_
    refine r_bipush cd_Table_shotsToGoal_11 ?_
    refine r_icmp_gt cd_Table_shotsToGoal_13 ⟨by omega, by omega⟩ ⟨by decide, by decide⟩ (fun c_13 => ?_) (fun c_13 => ?_)
    · skip
      refine r_iload_n cd_Table_shotsToGoal_38 rfl ?_
      exact r_iret cd_Table_shotsToGoal_39 rt_Table_shotsToGoal (by first | rfl | omega | (split <;> first | rfl | omega)) (by rfl)
    · skip
      omega
  | succ k ih =>
    intro n h1
    refine r_iload_n cd_Table_shotsToGoal_10 rfl ?_
    refine r_bipush cd_Table_shotsToGoal_11 ?_
    refine r_icmp_gt cd_Table_shotsToGoal_13 ⟨by omega, by omega⟩ ⟨by decide, by decide⟩ (fun c_13 => ?_) (fun c_13 => ?_)
    · skip
      omega
    · skip
      refine r_aload_n cd_Table_shotsToGoal_16 rfl ?_
      refine r_iload_n cd_Table_shotsToGoal_17 rfl ?_
      refine r_iload_n cd_Table_shotsToGoal_18 rfl ?_
      refine r_vv2 cd_Table_shotsToGoal_19 rfl ck_Table_shotsToGoal_Table_reachesGoal (Nat.le_of_ble_eq_true rfl) hT.1 rfl (sp_reachesGoal hT hw ha hp.1 hp.2 (by omega) (by omega)) ?_
      refine r_ifeq_p cd_Table_shotsToGoal_22 (fun c_22 => ?_) (fun c_22 => ?_)
      · skip
        refine r_iinc4_3 cd_Table_shotsToGoal_32 rfl ?_
        refine r_goto cd_Table_shotsToGoal_35 ?_
        (have e9 := ih (n + 1) (by omega); rw [show ((n + 1 : Nat) : Int) - 9 = (n : Int) - 9 + 1 by omega] at e9; first | (rw [bsN_t (by omega) c_22] at e9; exact e9) | (rw [bsN_f c_22] at e9; exact e9))
      · skip
        refine r_iload_n cd_Table_shotsToGoal_25 rfl ?_
        refine r_iload_n cd_Table_shotsToGoal_26 rfl ?_
        refine r_cv1 cd_Table_shotsToGoal_27 rfl ck_Table_shotsToGoal_F_shotBit rfl (Nat.le_of_ble_eq_true rfl) (sp_shotBit (by omega)) ?_
        refine r_ior cd_Table_shotsToGoal_30 ?_
        refine r_istoren4_2 cd_Table_shotsToGoal_31 rfl ?_
        refine r_iinc4_3 cd_Table_shotsToGoal_32 rfl ?_
        refine r_goto cd_Table_shotsToGoal_35 ?_
        (have e9 := ih (n + 1) (by omega); rw [show ((n + 1 : Nat) : Int) - 9 = (n : Int) - 9 + 1 by omega] at e9; first | (rw [bsN_t (by omega) c_22] at e9; exact e9) | (rw [bsN_f c_22] at e9; exact e9))
theorem sp_shotsToGoal (hT : TabAt h t w) (hw : WF w) (ha : at_ w 16 ≠ -6) : Sp xs m_Table_shotsToGoal [vR t] h (some (vI (bsN (gls w) 19 : Nat))) h := by
  have e1 : (if at_ w 16 = -6 then -6 else pos w (at_ w 16) (at_ w 17)) = bp0 w := if_neg ha
  refine en_Table_shotsToGoal ?_
  refine r_aload_n cd_Table_shotsToGoal_0 rfl ?_
  refine r_vv0 cd_Table_shotsToGoal_1 rfl ck_Table_shotsToGoal_Table_ballPlace (Nat.le_of_ble_eq_true rfl) hT.1 rfl (by have e9 := sp_ballPlace (xs := xs) hT hw; rw [e1] at e9; exact e9) ?_
  refine r_istoren4_1 cd_Table_shotsToGoal_4 rfl ?_
  refine r_iconst cd_Table_shotsToGoal_5 ?_
  refine r_istoren4_2 cd_Table_shotsToGoal_6 rfl ?_
  refine r_bipush cd_Table_shotsToGoal_7 ?_
  refine r_istoren4_3 cd_Table_shotsToGoal_9 rfl ?_
  exact lp_shotsToGoal hT hw ha 19 0 (by omega)
def pst (w : List Int) (r d : Int) : Bool := decide (cov w r (bnc (bp0 w + zabs (r - at_ w 16) * d)) = -1)
theorem lp_shotsPast {r : Int} (hT : TabAt h t w) (hw : WF w) (ha : at_ w 16 ≠ -6) (h0 : 0 ≤ r) (h1 : r < 8) : ∀ (k n : Nat) (x5 : MV), n + k = 19 → Rn xs m_Table_shotsPast 11 [vR t, vI r, vI (bp0 w), vI (bsN (pst w r) n : Nat), vI ((n : Int) - 9), x5] [] h (some (vI (bsN (pst w r) 19 : Nat))) h := by
  intro k
  have hp := bp0_bd hw ha
  obtain ⟨a1, a2, a3, a4⟩ := alive_bd hw ha
  have hz := zabs_bd (x := r - at_ w 16) (n := 7) (by omega) (by omega)
  induction k with
  | zero =>
    intro n x5 h1
    have : n = 19 := by omega
    subst this
    refine r_iload cd_Table_shotsPast_11 rfl ?_
    refine r_bipush cd_Table_shotsPast_13 ?_
    refine r_icmp_gt cd_Table_shotsPast_15 ⟨by omega, by omega⟩ ⟨by decide, by decide⟩ (fun c_15 => ?_) (fun c_15 => ?_)
    · skip
      refine r_iload_n cd_Table_shotsPast_62 rfl ?_
      exact r_iret cd_Table_shotsPast_63 rt_Table_shotsPast (by first | rfl | omega | (split <;> first | rfl | omega)) (by rfl)
    · skip
      omega
  | succ k ih =>
    intro n x5 h1
    have hm := d_mul hz.1 (by omega) (d := (n : Int) - 9) (by omega) (by omega)
    have hb := bnc_bd (bp0 w + zabs (r - at_ w 16) * ((n : Int) - 9))
    have hc := cov_bd w (r := r) (p := bnc (bp0 w + zabs (r - at_ w 16) * ((n : Int) - 9))) (by omega) (by omega)
    have hmm := men_bd (r := r) (by omega) (by omega)
    refine r_iload cd_Table_shotsPast_11 rfl ?_
    refine r_bipush cd_Table_shotsPast_13 ?_
    refine r_icmp_gt cd_Table_shotsPast_15 ⟨by omega, by omega⟩ ⟨by decide, by decide⟩ (fun c_15 => ?_) (fun c_15 => ?_)
    · skip
      omega
    · skip
      refine r_iload_n cd_Table_shotsPast_18 rfl ?_
      refine r_iload_n cd_Table_shotsPast_19 rfl ?_
      refine r_aload_n cd_Table_shotsPast_20 rfl ?_
      refine r_getfield cd_Table_shotsPast_21 hT.1 rfl ?_
      refine r_isub cd_Table_shotsPast_24 ?_
      refine r_cv1 cd_Table_shotsPast_25 rfl ck_Table_shotsPast_Math_abs rfl (Nat.le_of_ble_eq_true rfl) (sp_Math_abs (x := r - at_ w 16) ⟨by omega, by omega⟩) ?_
      refine r_iload cd_Table_shotsPast_28 rfl ?_
      refine r_imul cd_Table_shotsPast_30 ?_
      refine r_iadd cd_Table_shotsPast_31 ?_
      refine r_cv1 cd_Table_shotsPast_32 rfl ck_Table_shotsPast_Table_bounced rfl (Nat.le_of_ble_eq_true rfl) (sp_bounced (z := bp0 w + zabs (r - at_ w 16) * ((n : Int) - 9)) (by omega) (by omega)) ?_
      refine r_istore6_5 cd_Table_shotsPast_35 rfl ?_
      refine r_aload_n cd_Table_shotsPast_37 rfl ?_
      refine r_iload_n cd_Table_shotsPast_38 rfl ?_
      refine r_iload cd_Table_shotsPast_39 rfl ?_
      refine r_vv2 cd_Table_shotsPast_41 rfl ck_Table_shotsPast_Table_covererOf (Nat.le_of_ble_eq_true rfl) hT.1 rfl (sp_covererOf hT hw (by omega) (by omega) (by omega) (by omega)) ?_
      refine r_iconst cd_Table_shotsPast_44 ?_
      refine r_icmp_ne cd_Table_shotsPast_45 ⟨by omega, by omega⟩ ⟨by decide, by decide⟩ (fun c_45 => ?_) (fun c_45 => ?_)
      · skip
        refine r_iinc6_4 cd_Table_shotsPast_56 rfl ?_
        refine r_goto cd_Table_shotsPast_59 ?_
        (have e9 := fun y => ih (n + 1) y (by omega); rw [show ((n + 1 : Nat) : Int) - 9 = (n : Int) - 9 + 1 by omega] at e9; first | (rw [bsN_t (by omega) (decide_eq_true c_45)] at e9; exact e9 _) | (rw [bsN_f (fun z => c_45 (of_decide_eq_true z))] at e9; exact e9 _))
      · skip
        refine r_iload_n cd_Table_shotsPast_48 rfl ?_
        refine r_iload cd_Table_shotsPast_49 rfl ?_
        refine r_cv1 cd_Table_shotsPast_51 rfl ck_Table_shotsPast_F_shotBit rfl (Nat.le_of_ble_eq_true rfl) (sp_shotBit (by omega)) ?_
        refine r_ior cd_Table_shotsPast_54 ?_
        refine r_istoren6_3 cd_Table_shotsPast_55 rfl ?_
        refine r_iinc6_4 cd_Table_shotsPast_56 rfl ?_
        refine r_goto cd_Table_shotsPast_59 ?_
        (have e9 := fun y => ih (n + 1) y (by omega); rw [show ((n + 1 : Nat) : Int) - 9 = (n : Int) - 9 + 1 by omega] at e9; first | (rw [bsN_t (by omega) (decide_eq_true c_45)] at e9; exact e9 _) | (rw [bsN_f (fun z => c_45 (of_decide_eq_true z))] at e9; exact e9 _))
theorem sp_shotsPast {r : Int} (hT : TabAt h t w) (hw : WF w) (ha : at_ w 16 ≠ -6) (h0 : 0 ≤ r) (h1 : r < 8) : Sp xs m_Table_shotsPast [vR t, vI r] h (some (vI (bsN (pst w r) 19 : Nat))) h := by
  have e1 : (if at_ w 16 = -6 then -6 else pos w (at_ w 16) (at_ w 17)) = bp0 w := if_neg ha
  refine en_Table_shotsPast ?_
  refine r_aload_n cd_Table_shotsPast_0 rfl ?_
  refine r_vv0 cd_Table_shotsPast_1 rfl ck_Table_shotsPast_Table_ballPlace (Nat.le_of_ble_eq_true rfl) hT.1 rfl (by have e9 := sp_ballPlace (xs := xs) hT hw; rw [e1] at e9; exact e9) ?_
  refine r_istoren6_2 cd_Table_shotsPast_4 rfl ?_
  refine r_iconst cd_Table_shotsPast_5 ?_
  refine r_istoren6_3 cd_Table_shotsPast_6 rfl ?_
  refine r_bipush cd_Table_shotsPast_7 ?_
  refine r_istore6_4 cd_Table_shotsPast_9 rfl ?_
  exact lp_shotsPast hT hw ha h0 h1 19 0 vU (by omega)
-- copies
theorem ext_at {l l1 : List Int} {n : Nat} (h0 : l.length = n) (h1 : l1.length = n) (e : ∀ j : Int, 0 ≤ j → j < (n : Int) → at_ l j = at_ l1 j) : l = l1 := by
  apply List.ext_getElem?
  intro j
  by_cases hj : j < n
  · have := e j (by omega) (by omega)
    unfold at_ at this
    rw [show ((j : Int)).toNat = j by omega, List.getD_eq_getElem?_getD, List.getD_eq_getElem?_getD, List.getElem?_eq_getElem (by omega), List.getElem?_eq_getElem (by omega)] at this
    rw [List.getElem?_eq_getElem (by omega), List.getElem?_eq_getElem (by omega)]
    exact congrArg some this
  · rw [List.getElem?_eq_none (by omega), List.getElem?_eq_none (by omega)]
theorem cp_step {l l1 : List Int} {i : Int} (h0 : 0 ≤ i) (hl : i < (l.length : Int)) (e : ∀ j : Int, 0 ≤ j → j < i → at_ l j = at_ l1 j) : ∀ j : Int, 0 ≤ j → j < i + 1 → at_ (l.set i.toNat (at_ l1 i)) j = at_ l1 j := by
  intro j j0 j1
  rw [az_set h0 hl j0]
  by_cases z : i = j
  · rw [if_pos z, z]
  · rw [if_neg z]
    exact e j j0 (by omega)
theorem lp_copyRow {a b n : Nat} {l1 : List Int} (hn : a ≠ b) (n1 : n < 1000) (la' : l1.length = n) : ∀ (k : Nat) (i : Int) (h : MH) (l : List Int), 0 ≤ i → i + k = n → h[a]? = some (.inr (0, l1)) → h[b]? = some (.inr (0, l)) → l.length = n → (∀ j : Int, 0 ≤ j → j < i → at_ l j = at_ l1 j) → Rn xs m_F_copyRow 11 [vR a, vR b, vI i] [] h none (h.set b (.inr (0, l1))) := by
  intro k
  have la : ((l1.length : Nat) : Int) = n := by rw [la']
  induction k with
  | zero =>
    intro i h l h0 h1 qa qb lb' e
    have : l = l1 := ext_at lb' la' (fun j j0 j1 => e j j0 (by omega))
    subst this
    refine r_iload_n cd_F_copyRow_11 rfl ?_
    refine r_aload_n cd_F_copyRow_12 rfl ?_
    refine r_arraylength (N := n) cd_F_copyRow_13 qa la ?_
    refine r_icmp_ge cd_F_copyRow_14 ⟨by omega, by omega⟩ ⟨by omega, by omega⟩ (fun c_14 => ?_) (fun c_14 => ?_)
    · skip
      exact r_vret cd_F_copyRow_35 rt_F_copyRow (by exact (set_same qb).symm)
    · skip
      omega
  | succ k ih =>
    intro i h l h0 h1 qa qb lb' e
    have lb : ((l.length : Nat) : Int) = n := by rw [lb']
    refine r_iload_n cd_F_copyRow_11 rfl ?_
    refine r_aload_n cd_F_copyRow_12 rfl ?_
    refine r_arraylength (N := n) cd_F_copyRow_13 qa la ?_
    refine r_icmp_ge cd_F_copyRow_14 ⟨by omega, by omega⟩ ⟨by omega, by omega⟩ (fun c_14 => ?_) (fun c_14 => ?_)
    · skip
      omega
    · skip
      refine r_iload_n cd_F_copyRow_17 rfl ?_
      refine r_aload_n cd_F_copyRow_18 rfl ?_
      refine r_arraylength (N := n) cd_F_copyRow_19 qb lb ?_
      refine r_icmp_ge cd_F_copyRow_20 ⟨by omega, by omega⟩ ⟨by omega, by omega⟩ (fun c_20 => ?_) (fun c_20 => ?_)
      · skip
        omega
      · skip
        refine r_aload_n cd_F_copyRow_23 rfl ?_
        refine r_iload_n cd_F_copyRow_24 rfl ?_
        refine r_aload_n cd_F_copyRow_25 rfl ?_
        refine r_iload_n cd_F_copyRow_26 rfl ?_
        refine r_iaload (N := n) cd_F_copyRow_27 qa la (by omega) (by omega) (by omega) ?_
        refine r_iastore (N := n) cd_F_copyRow_28 qb lb (by omega) (by omega) (by omega) ?_
        refine r_iinc3_2 cd_F_copyRow_29 rfl ?_
        refine r_goto cd_F_copyRow_32 ?_
        (have e9 := ih (i + 1) (h.set b (.inr (0, l.set i.toNat (at_ l1 i)))) (l.set i.toNat (at_ l1 i)) (by omega) (by omega) (gs_ne (Ne.symm hn) qa) (gs_eq qb) (by rw [List.length_set, lb']) (cp_step h0 (by omega) e); rw [List.set_set] at e9; exact e9)
theorem sp_copyRow {a b n : Nat} {l1 l : List Int} (hn : a ≠ b) (n1 : n < 1000) (qa : h[a]? = some (.inr (0, l1))) (qb : h[b]? = some (.inr (0, l))) (la : l1.length = n) (lb : l.length = n) : Sp xs m_F_copyRow [vR a, vR b] h none (h.set b (.inr (0, l1))) := by
  refine en_F_copyRow ?_
  refine r_aload_n cd_F_copyRow_0 rfl ?_
  refine r_ifnull cd_F_copyRow_1 ?_
  refine r_aload_n cd_F_copyRow_4 rfl ?_
  refine r_ifnonnull cd_F_copyRow_5 ?_
  refine r_iconst cd_F_copyRow_9 ?_
  refine r_istoren3_2 cd_F_copyRow_10 rfl ?_
  exact lp_copyRow hn n1 la n 0 h l (by omega) (by omega) qa qb lb (fun j j0 j1 => by omega)
theorem sp_copyFrom {u : Nat} {v : List Int} (hn : t + 3 ≤ u ∨ u + 3 ≤ t) (hT : TabAt h t w) (hU : TabAt h u v) (lw : w.length = 21) (lv : v.length = 21) : Sp xs m_Table_copyFrom [vR t, vR u] h none (tset h t v) := by
  obtain ⟨t1, t2, t3⟩ := hT
  obtain ⟨u1, u2, u3⟩ := hU
  have q1 : (h.set (t + 1) (.inr (0, v.take 8)))[t]? = some (tobj t w) := gs_ne (by omega) t1
  have q2 : (h.set (t + 1) (.inr (0, v.take 8)))[u]? = some (tobj u v) := gs_ne (by omega) u1
  have q3 : (h.set (t + 1) (.inr (0, v.take 8)))[t + 2]? = some (.inr (0, [at_ w 18, at_ w 19])) := gs_ne (by omega) t3
  have q4 : (h.set (t + 1) (.inr (0, v.take 8)))[u + 2]? = some (.inr (0, [at_ v 18, at_ v 19])) := gs_ne (by omega) u3
  have q5 := gs_ne (p := t + 2) (c := .inr (0, [at_ v 18, at_ v 19])) (by omega) q1
  have q6 := gs_ne (p := t + 2) (c := .inr (0, [at_ v 18, at_ v 19])) (by omega) q2
  have tailC : Rn xs m_Table_copyFrom 27 [vR t, vR u] [] ((h.set (t + 1) (.inr (0, v.take 8))).set (t + 2) (.inr (0, [at_ v 18, at_ v 19]))) none (tset h t v) := by
    refine r_aload_n cd_Table_copyFrom_27 rfl ?_
    refine r_aload_n cd_Table_copyFrom_28 rfl ?_
    refine r_getfield cd_Table_copyFrom_29 q6 rfl ?_
    refine r_putfield cd_Table_copyFrom_32 q5 (Nat.le_of_ble_eq_true rfl) rfl ?_
    refine r_aload_n cd_Table_copyFrom_35 rfl ?_
    refine r_aload_n cd_Table_copyFrom_36 rfl ?_
    refine r_getfield cd_Table_copyFrom_37 (gs_ne (by omega) q6) rfl ?_
    refine r_putfield cd_Table_copyFrom_40 (gs_eq q5) (Nat.le_of_ble_eq_true rfl) rfl ?_
    refine r_aload_n cd_Table_copyFrom_43 rfl ?_
    refine r_aload_n cd_Table_copyFrom_44 rfl ?_
    refine r_getfield cd_Table_copyFrom_45 (gs_ne (by omega) (gs_ne (by omega) q6)) rfl ?_
    refine r_putfield cd_Table_copyFrom_48 (gs_eq (gs_eq q5)) (Nat.le_of_ble_eq_true rfl) rfl ?_
    refine r_aload_n cd_Table_copyFrom_51 rfl ?_
    refine r_aload_n cd_Table_copyFrom_52 rfl ?_
    refine r_getfield cd_Table_copyFrom_53 (gs_ne (by omega) (gs_ne (by omega) (gs_ne (by omega) q6))) rfl ?_
    refine r_putfield cd_Table_copyFrom_56 (gs_eq (gs_eq (gs_eq q5))) (Nat.le_of_ble_eq_true rfl) rfl ?_
    exact r_vret cd_Table_copyFrom_59 rt_Table_copyFrom (by (simp only [List.set_set]; unfold tset; apply List.ext_getElem?; intro k; simp only [List.getElem?_set, List.length_set]; (repeat' split) <;> first | rfl | omega))
  have tailB : Rn xs m_Table_copyFrom 16 [vR t, vR u] [] (h.set (t + 1) (.inr (0, v.take 8))) none (tset h t v) := by
    refine r_aload_n cd_Table_copyFrom_16 rfl ?_
    refine r_getfield cd_Table_copyFrom_17 q2 rfl ?_
    refine r_aload_n cd_Table_copyFrom_20 rfl ?_
    refine r_getfield cd_Table_copyFrom_21 q1 rfl ?_
    refine r_cz2 cd_Table_copyFrom_24 rfl ck_Table_copyFrom_F_copyRow rfl (Nat.le_of_ble_eq_true rfl) (sp_copyRow (n := 2) (by omega) (by omega) q4 q3 rfl rfl) ?_
    exact tailC
  refine en_Table_copyFrom ?_
  refine r_aload_n cd_Table_copyFrom_0 rfl ?_
  refine r_ifnonnull cd_Table_copyFrom_1 ?_
  refine r_aload_n cd_Table_copyFrom_5 rfl ?_
  refine r_getfield cd_Table_copyFrom_6 u1 rfl ?_
  refine r_aload_n cd_Table_copyFrom_9 rfl ?_
  refine r_getfield cd_Table_copyFrom_10 t1 rfl ?_
  refine r_cz2 cd_Table_copyFrom_13 rfl ck_Table_copyFrom_F_copyRow rfl (Nat.le_of_ble_eq_true rfl) (sp_copyRow (n := 8) (by omega) (by omega) u2 t2 (by rw [List.length_take, lv]; rfl) (by rw [List.length_take, lw]; rfl)) ?_
  exact tailB
end C36
