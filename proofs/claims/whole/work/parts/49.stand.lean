-- contracts of Defence: at 12, its trial at 13, pastBacks at 16
section C49
variable {xs : List Int} {h : MH} {w pb : List Int}
theorem bsN_bit (P : Int → Bool) : ∀ (n k : Nat), (bsN P n).testBit k = (decide (k < n) && P ((k : Int) - 9))
  | 0, k => by unfold bsN; simp
  | n + 1, k => by
    have hl := bsN_lt P n
    have ih := bsN_bit P n k
    unfold bsN
    by_cases hp : P ((n : Int) - 9) = true
    · rw [if_pos hp, Nat.add_comm]
      by_cases h1 : k = n
      · subst h1
        rw [Nat.testBit_two_pow_add_eq, ih, hp]
        simp
      · by_cases h2 : k < n
        · rw [Nat.testBit_two_pow_add_gt h2, ih]
          rw [decide_eq_true h2, decide_eq_true (by omega : k < n + 1)]
        · rw [Nat.testBit_lt_two_pow (Nat.lt_of_lt_of_le (by rw [Nat.pow_succ]; omega : 2 ^ n + bsN P n < 2 ^ (n + 1)) (Nat.pow_le_pow_right (by omega) (by omega)))]
          rw [decide_eq_false (by omega : ¬ k < n + 1)]
          rfl
    · rw [if_neg hp, Nat.add_zero, ih]
      by_cases h1 : k = n
      · subst h1
        rw [decide_eq_false (by omega : ¬ k < k), Bool.not_eq_true _ |>.mp hp]
        simp
      · by_cases h2 : k < n
        · rw [decide_eq_true h2, decide_eq_true (by omega : k < n + 1)]
        · rw [decide_eq_false h2, decide_eq_false (by omega : ¬ k < n + 1)]
theorem bsN_and (P Q : Int → Bool) (n : Nat) : bsN P n &&& bsN Q n = bsN (fun d => P d && Q d) n := by
  apply Nat.eq_of_testBit_eq
  intro k
  rw [Nat.testBit_and, bsN_bit, bsN_bit, bsN_bit]
  cases decide (k < n) <;> simp
theorem bsN19 (P : Int → Bool) : bsN P 19 < 524288 := bsN_lt P 19
def dobj (li sl : Int) : HC := .inl (0, [vR 13, vR 16, vI li, vI sl])
def tkA (pb : List Int) (pk : Nat) (v : Int) : Nat → Int → Int → Int → Int × Int
  | 0, _, li, sl => (li, sl)
  | k + 1, j, li, sl => if ((bsm ((at_ pb j).toNat &&& pk) : Nat) : Int) < li then tkA pb pk v k (j + 1) (bsm ((at_ pb j).toNat &&& pk) : Nat) (100 * v + j) else tkA pb pk v k (j + 1) li sl
theorem bsm_bd (x : Nat) : bsm x ≤ 24 := by
  unfold bsm
  have k8 : ∀ y, pc8 y ≤ 8 := fun y => by unfold pc8; omega
  have a1 := k8 (x % 256)
  have a2 := k8 (x / 256 % 256)
  have a3 := k8 (x / 65536)
  omega
theorem lp_tryKeeper {pk : Nat} {v lst : Int} (hl : pb.length = 41) (hb : ∀ j : Int, 0 ≤ j → j < 41 → 0 ≤ at_ pb j ∧ at_ pb j < 524288) (hk : pk < 524288) (l0 : 0 ≤ lst) (l1 : lst ≤ 40) : ∀ (k : Nat) (j li sl : Int) (h : MH) (x5 : MV), 0 ≤ j → j + k = lst + 1 → 0 ≤ li → li ≤ 100 → h[12]? = some (dobj li sl) → h[16]? = some (.inr (0, pb)) → Rn xs m_Defence_tryKeeper 3 [vR 12, vI v, vI (pk : Int), vI lst, vI j, x5] [] h none (h.set 12 (dobj (tkA pb pk v k j li sl).1 (tkA pb pk v k j li sl).2)) := by
  intro k
  induction k with
  | zero =>
    intro j li sl h x5 j0 j1 i0 i1 hD hB
    unfold tkA
    refine r_iload cd_Defence_tryKeeper_3 rfl ?_
    refine r_iload_n cd_Defence_tryKeeper_5 rfl ?_
    refine r_icmp_gt cd_Defence_tryKeeper_6 ⟨by omega, by omega⟩ ⟨by omega, by omega⟩ (fun c_6 => ?_) (fun c_6 => ?_)
    · skip
      exact r_vret cd_Defence_tryKeeper_65 rt_Defence_tryKeeper (by exact (set_same hD).symm)
    · skip
      omega
  | succ k ih =>
    intro j li sl h x5 j0 j1 i0 i1 hD hB
    have b1 := hb j j0 (by omega)
    have e1 : bAnd (at_ pb j) (pk : Int) = (((at_ pb j).toNat &&& pk : Nat) : Int) := by
      have := bAnd_nat (a := (at_ pb j).toNat) (b := pk) (by omega) (by omega)
      rwa [show (((at_ pb j).toNat : Nat) : Int) = at_ pb j by omega] at this
    have l19 : ((at_ pb j).toNat &&& pk) < 524288 := Nat.lt_of_le_of_lt Nat.and_le_right hk
    have hbc := sp_bitCount (xs := xs) (h := h) l19
    rw [← e1] at hbc
    have bb := bsm_bd ((at_ pb j).toNat &&& pk)
    by_cases z : ((bsm ((at_ pb j).toNat &&& pk) : Nat) : Int) < li
    · skip
      have e0 : tkA pb pk v (k + 1) j li sl = tkA pb pk v k (j + 1) (bsm ((at_ pb j).toNat &&& pk) : Nat) (100 * v + j) := by (conv => lhs; unfold tkA); rw [if_pos z]
      rw [e0]
      have e9 := fun x => ih (j + 1) (bsm ((at_ pb j).toNat &&& pk) : Nat) (100 * v + j) (h.set 12 (dobj (bsm ((at_ pb j).toNat &&& pk) : Nat) (100 * v + j))) x (by omega) (by omega) (by omega) (by omega) (gs_eq hD) (gs_ne (by omega) hB)
      rw [List.set_set] at e9
      refine r_iload cd_Defence_tryKeeper_3 rfl ?_
      refine r_iload_n cd_Defence_tryKeeper_5 rfl ?_
      refine r_icmp_gt cd_Defence_tryKeeper_6 ⟨by omega, by omega⟩ ⟨by omega, by omega⟩ (fun c_6 => ?_) (fun c_6 => ?_)
      · skip
        omega
      · skip
        refine r_iload cd_Defence_tryKeeper_9 rfl ?_
        refine r_aload_n cd_Defence_tryKeeper_11 rfl ?_
        refine r_getfield cd_Defence_tryKeeper_12 hD rfl ?_
        refine r_arraylength (N := 41) cd_Defence_tryKeeper_15 hB (by rw [hl]; rfl) ?_
        refine r_icmp_ge cd_Defence_tryKeeper_16 ⟨by omega, by omega⟩ ⟨by omega, by omega⟩ (fun c_16 => ?_) (fun c_16 => ?_)
        · skip
          omega
        · skip
          refine r_aload_n cd_Defence_tryKeeper_19 rfl ?_
          refine r_getfield cd_Defence_tryKeeper_20 hD rfl ?_
          refine r_iload cd_Defence_tryKeeper_23 rfl ?_
          refine r_iaload (N := 41) cd_Defence_tryKeeper_25 hB (by rw [hl]; rfl) (by omega) (by omega) (by omega) ?_
          refine r_iload_n cd_Defence_tryKeeper_26 rfl ?_
          refine r_iand cd_Defence_tryKeeper_27 ?_
          refine r_cv1 cd_Defence_tryKeeper_28 rfl ck_Defence_tryKeeper_Integer_bitCount rfl (Nat.le_of_ble_eq_true rfl) hbc ?_
          refine r_istore6_5 cd_Defence_tryKeeper_31 rfl ?_
          refine r_iload cd_Defence_tryKeeper_33 rfl ?_
          refine r_aload_n cd_Defence_tryKeeper_35 rfl ?_
          refine r_getfield cd_Defence_tryKeeper_36 hD rfl ?_
          refine r_icmp_ge cd_Defence_tryKeeper_39 ⟨by omega, by omega⟩ ⟨by omega, by omega⟩ (fun c_39 => ?_) (fun c_39 => ?_)
          · skip
            refine r_iinc6_4 cd_Defence_tryKeeper_59 rfl ?_
            refine r_goto cd_Defence_tryKeeper_62 ?_
            first | omega | (rw [List.set_set]; exact e9 _)
          · skip
            refine r_aload_n cd_Defence_tryKeeper_42 rfl ?_
            refine r_iload cd_Defence_tryKeeper_43 rfl ?_
            refine r_putfield cd_Defence_tryKeeper_45 hD (Nat.le_of_ble_eq_true rfl) rfl ?_
            refine r_aload_n cd_Defence_tryKeeper_48 rfl ?_
            refine r_bipush cd_Defence_tryKeeper_49 ?_
            refine r_iload_n cd_Defence_tryKeeper_51 rfl ?_
            refine r_imul cd_Defence_tryKeeper_52 ?_
            refine r_iload cd_Defence_tryKeeper_53 rfl ?_
            refine r_iadd cd_Defence_tryKeeper_55 ?_
            refine r_putfield cd_Defence_tryKeeper_56 (gs_eq hD) (Nat.le_of_ble_eq_true rfl) rfl ?_
            refine r_iinc6_4 cd_Defence_tryKeeper_59 rfl ?_
            refine r_goto cd_Defence_tryKeeper_62 ?_
            first | omega | (rw [List.set_set]; exact e9 _)
    · skip
      have e0 : tkA pb pk v (k + 1) j li sl = tkA pb pk v k (j + 1) li sl := by (conv => lhs; unfold tkA); rw [if_neg z]
      rw [e0]
      have e9 := fun x => ih (j + 1) li sl h x (by omega) (by omega) i0 i1 hD hB
      refine r_iload cd_Defence_tryKeeper_3 rfl ?_
      refine r_iload_n cd_Defence_tryKeeper_5 rfl ?_
      refine r_icmp_gt cd_Defence_tryKeeper_6 ⟨by omega, by omega⟩ ⟨by omega, by omega⟩ (fun c_6 => ?_) (fun c_6 => ?_)
      · skip
        omega
      · skip
        refine r_iload cd_Defence_tryKeeper_9 rfl ?_
        refine r_aload_n cd_Defence_tryKeeper_11 rfl ?_
        refine r_getfield cd_Defence_tryKeeper_12 hD rfl ?_
        refine r_arraylength (N := 41) cd_Defence_tryKeeper_15 hB (by rw [hl]; rfl) ?_
        refine r_icmp_ge cd_Defence_tryKeeper_16 ⟨by omega, by omega⟩ ⟨by omega, by omega⟩ (fun c_16 => ?_) (fun c_16 => ?_)
        · skip
          omega
        · skip
          refine r_aload_n cd_Defence_tryKeeper_19 rfl ?_
          refine r_getfield cd_Defence_tryKeeper_20 hD rfl ?_
          refine r_iload cd_Defence_tryKeeper_23 rfl ?_
          refine r_iaload (N := 41) cd_Defence_tryKeeper_25 hB (by rw [hl]; rfl) (by omega) (by omega) (by omega) ?_
          refine r_iload_n cd_Defence_tryKeeper_26 rfl ?_
          refine r_iand cd_Defence_tryKeeper_27 ?_
          refine r_cv1 cd_Defence_tryKeeper_28 rfl ck_Defence_tryKeeper_Integer_bitCount rfl (Nat.le_of_ble_eq_true rfl) hbc ?_
          refine r_istore6_5 cd_Defence_tryKeeper_31 rfl ?_
          refine r_iload cd_Defence_tryKeeper_33 rfl ?_
          refine r_aload_n cd_Defence_tryKeeper_35 rfl ?_
          refine r_getfield cd_Defence_tryKeeper_36 hD rfl ?_
          refine r_icmp_ge cd_Defence_tryKeeper_39 ⟨by omega, by omega⟩ ⟨by omega, by omega⟩ (fun c_39 => ?_) (fun c_39 => ?_)
          · skip
            refine r_iinc6_4 cd_Defence_tryKeeper_59 rfl ?_
            refine r_goto cd_Defence_tryKeeper_62 ?_
            exact e9 _
          · skip
            omega
theorem sp_tryKeeper {pk : Nat} {v lst li sl : Int} (hl : pb.length = 41) (hb : ∀ j : Int, 0 ≤ j → j < 41 → 0 ≤ at_ pb j ∧ at_ pb j < 524288) (hk : pk < 524288) (l0 : 0 ≤ lst) (l1 : lst ≤ 40) (i0 : 0 ≤ li) (i1 : li ≤ 100) (hD : h[12]? = some (dobj li sl)) (hB : h[16]? = some (.inr (0, pb))) : Sp xs m_Defence_tryKeeper [vR 12, vI v, vI (pk : Int), vI lst] h none (h.set 12 (dobj (tkA pb pk v (lst + 1).toNat 0 li sl).1 (tkA pb pk v (lst + 1).toNat 0 li sl).2)) := by
  refine en_Defence_tryKeeper ?_
  refine r_iconst cd_Defence_tryKeeper_0 ?_
  refine r_istore6_4 cd_Defence_tryKeeper_1 rfl ?_
  exact lp_tryKeeper hl hb hk l0 l1 (lst + 1).toNat 0 li sl h vU (by omega) (by omega) i0 i1 hD hB
def bk (s : Int) : Int := if s = 0 then 1 else 6
theorem sp_bk {s : Int} (hs : inR s) : Sp xs m_Rods_backsOf [vI s] h (some (vI (bk s))) h := sp_Rods_backsOf hs
def opC (s r : Int) : Prop := (0 ≤ r ∧ r < 8 ∧ sid r = s) ∧ r ≠ kp s ∧ r ≠ bk s
def opCB (s r : Int) : Bool := decide (0 ≤ r) && decide (r < 8) && decide (sid r = s) && !decide (r = kp s) && !decide (r = bk s)
theorem opCB_iff {s r : Int} : opCB s r = true ↔ opC s r := by
  unfold opCB opC
  simp [and_assoc]
def opA (w : List Int) (s : Int) : Nat → Int → (Int → Bool) → (Int → Bool)
  | 0, _, P => P
  | k + 1, i, P => opA w s k (i + 1) (if opCB s (at_ w 16 + i * upw (1 - s)) = true then fun d => P d && pst w (at_ w 16 + i * upw (1 - s)) d else P)
def opn (w : List Int) (s : Int) : Int → Bool := opA w s 7 1 (gls w)
theorem lp_spo {s li sl : Int} (hs : s = 0 ∨ s = 1) (hD : h[12]? = some (dobj li sl)) (hT : TabAt h 13 w) (hw : WF w) (ha : at_ w 16 ≠ -6) : ∀ (k : Nat) (i : Int) (P : Int → Bool) (x5 x6 : MV), 1 ≤ i → i + k = 8 → Rn xs m_Defence_shotsPastOthers 18 [vR 12, vI s, vI (bsN P 19 : Nat), vI (upw (1 - s)), vI i, x5, x6] [] h (some (vI (bsN (opA w s k i P) 19 : Nat))) h := by
  intro k
  obtain ⟨a1, a2, a3, a4⟩ := alive_bd hw ha
  have hk : kp s = 0 ∨ kp s = 7 := by unfold kp; split <;> simp
  have hbk : bk s = 1 ∨ bk s = 6 := by unfold bk; split <;> simp
  induction k with
  | zero =>
    intro i P x5 x6 i0 i1
    refine r_iload cd_Defence_shotsPastOthers_18 rfl ?_
    refine r_bipush cd_Defence_shotsPastOthers_20 ?_
    refine r_icmp_ge cd_Defence_shotsPastOthers_22 ⟨by omega, by omega⟩ ⟨by decide, by decide⟩ (fun c_22 => ?_) (fun c_22 => ?_)
    · skip
      refine r_iload_n cd_Defence_shotsPastOthers_96 rfl ?_
      exact r_iret cd_Defence_shotsPastOthers_97 rt_Defence_shotsPastOthers (by unfold opA; rfl) (by rfl)
    · skip
      omega
  | succ k ih =>
    intro i P x5 x6 i0 i1
    have hu : upw (1 - s) = 1 ∨ upw (1 - s) = -1 := by unfold upw; split <;> simp
    have hb : at_ w 16 + i * upw (1 - s) = at_ w 16 + i ∨ at_ w 16 + i * upw (1 - s) = at_ w 16 - i := by rcases hu with z | z <;> rw [z] <;> omega
    by_cases z : opCB s (at_ w 16 + i * upw (1 - s)) = true
    · skip
      have zc := opCB_iff.mp z
      have e0 : opA w s (k + 1) i P = opA w s k (i + 1) (fun d => P d && pst w (at_ w 16 + i * upw (1 - s)) d) := by (conv => lhs; unfold opA); rw [if_pos z]
      rw [e0]
      have e9 := fun x y => ih (i + 1) (fun d => P d && pst w (at_ w 16 + i * upw (1 - s)) d) x y (by omega) (by omega)
      rw [← bsN_and, ← bAnd_nat (Nat.lt_trans (bsN19 _) (by omega)) (Nat.lt_trans (bsN19 _) (by omega))] at e9
      refine r_iload cd_Defence_shotsPastOthers_18 rfl ?_
      refine r_bipush cd_Defence_shotsPastOthers_20 ?_
      refine r_icmp_ge cd_Defence_shotsPastOthers_22 ⟨by omega, by omega⟩ ⟨by decide, by decide⟩ (fun c_22 => ?_) (fun c_22 => ?_)
      · skip
        omega
      · skip
        refine r_aload_n cd_Defence_shotsPastOthers_25 rfl ?_
        refine r_getfield cd_Defence_shotsPastOthers_26 hD rfl ?_
        refine r_vv0 cd_Defence_shotsPastOthers_29 rfl ck_Defence_shotsPastOthers_Table_ballRod (Nat.le_of_ble_eq_true rfl) hT.1 rfl (sp_ballRod hT) ?_
        refine r_iload cd_Defence_shotsPastOthers_32 rfl ?_
        refine r_iload_n cd_Defence_shotsPastOthers_34 rfl ?_
        refine r_imul cd_Defence_shotsPastOthers_35 ?_
        refine r_iadd cd_Defence_shotsPastOthers_36 ?_
        refine r_istore7_5 cd_Defence_shotsPastOthers_37 rfl ?_
        refine r_iload cd_Defence_shotsPastOthers_39 rfl ?_
        refine r_iload_n cd_Defence_shotsPastOthers_41 rfl ?_
        refine r_cv1 cd_Defence_shotsPastOthers_42 rfl ck_Defence_shotsPastOthers_Rods_keeperOf rfl (Nat.le_of_ble_eq_true rfl) (sp_kp ⟨by omega, by omega⟩) ?_
        refine r_icmp_eq cd_Defence_shotsPastOthers_45 ⟨by omega, by omega⟩ ⟨by omega, by omega⟩ (fun c_45 => ?_) (fun c_45 => ?_)
        · skip
          first | exact absurd c_45 zc.2.1 | exact absurd c_54 zc.2.2
        · skip
          refine r_iload cd_Defence_shotsPastOthers_48 rfl ?_
          refine r_iload_n cd_Defence_shotsPastOthers_50 rfl ?_
          refine r_cv1 cd_Defence_shotsPastOthers_51 rfl ck_Defence_shotsPastOthers_Rods_backsOf rfl (Nat.le_of_ble_eq_true rfl) (sp_bk ⟨by omega, by omega⟩) ?_
          refine r_icmp_ne cd_Defence_shotsPastOthers_54 ⟨by omega, by omega⟩ ⟨by omega, by omega⟩ (fun c_54 => ?_) (fun c_54 => ?_)
          · skip
            refine r_iconst cd_Defence_shotsPastOthers_61 ?_
            refine r_istore7_6 cd_Defence_shotsPastOthers_62 rfl ?_
            refine r_iload cd_Defence_shotsPastOthers_64 rfl ?_
            refine r_iload_n cd_Defence_shotsPastOthers_66 rfl ?_
            refine r_cv2 cd_Defence_shotsPastOthers_67 rfl ck_Defence_shotsPastOthers_Rods_isOf rfl (Nat.le_of_ble_eq_true rfl) (sp_Rods_isOf (r := at_ w 16 + i * upw (1 - s)) ⟨by omega, by omega⟩ ⟨by omega, by omega⟩) ?_
            refine r_ifeq_p cd_Defence_shotsPastOthers_70 (fun c_70 => ?_) (fun c_70 => ?_)
            · skip
              refine r_iinc7_4 cd_Defence_shotsPastOthers_90 rfl ?_
              refine r_goto cd_Defence_shotsPastOthers_93 ?_
              first | exact e9 _ _ | exact absurd zc.1 c_70
            · skip
              refine r_iload cd_Defence_shotsPastOthers_73 rfl ?_
              refine r_if_ne cd_Defence_shotsPastOthers_75 ⟨by decide, by decide⟩ (fun c_75 => absurd c_75 (by decide)) (fun _ => ?_)
              refine r_iload_n cd_Defence_shotsPastOthers_78 rfl ?_
              refine r_aload_n cd_Defence_shotsPastOthers_79 rfl ?_
              refine r_getfield cd_Defence_shotsPastOthers_80 hD rfl ?_
              refine r_iload cd_Defence_shotsPastOthers_83 rfl ?_
              refine r_vv1 cd_Defence_shotsPastOthers_85 rfl ck_Defence_shotsPastOthers_Table_shotsPast (Nat.le_of_ble_eq_true rfl) hT.1 rfl (sp_shotsPast hT hw ha c_70.1 c_70.2.1) ?_
              refine r_iand cd_Defence_shotsPastOthers_88 ?_
              refine r_istoren7_2 cd_Defence_shotsPastOthers_89 rfl ?_
              refine r_iinc7_4 cd_Defence_shotsPastOthers_90 rfl ?_
              refine r_goto cd_Defence_shotsPastOthers_93 ?_
              first | exact e9 _ _ | exact absurd zc.1 c_70
          · skip
            first | exact absurd c_45 zc.2.1 | exact absurd c_54 zc.2.2
    · skip
      have zc : ¬ opC s (at_ w 16 + i * upw (1 - s)) := fun q => z (opCB_iff.mpr q)
      have e0 : opA w s (k + 1) i P = opA w s k (i + 1) P := by (conv => lhs; unfold opA); rw [if_neg z]
      rw [e0]
      have e9 := fun x y => ih (i + 1) P x y (by omega) (by omega)
      refine r_iload cd_Defence_shotsPastOthers_18 rfl ?_
      refine r_bipush cd_Defence_shotsPastOthers_20 ?_
      refine r_icmp_ge cd_Defence_shotsPastOthers_22 ⟨by omega, by omega⟩ ⟨by decide, by decide⟩ (fun c_22 => ?_) (fun c_22 => ?_)
      · skip
        omega
      · skip
        refine r_aload_n cd_Defence_shotsPastOthers_25 rfl ?_
        refine r_getfield cd_Defence_shotsPastOthers_26 hD rfl ?_
        refine r_vv0 cd_Defence_shotsPastOthers_29 rfl ck_Defence_shotsPastOthers_Table_ballRod (Nat.le_of_ble_eq_true rfl) hT.1 rfl (sp_ballRod hT) ?_
        refine r_iload cd_Defence_shotsPastOthers_32 rfl ?_
        refine r_iload_n cd_Defence_shotsPastOthers_34 rfl ?_
        refine r_imul cd_Defence_shotsPastOthers_35 ?_
        refine r_iadd cd_Defence_shotsPastOthers_36 ?_
        refine r_istore7_5 cd_Defence_shotsPastOthers_37 rfl ?_
        refine r_iload cd_Defence_shotsPastOthers_39 rfl ?_
        refine r_iload_n cd_Defence_shotsPastOthers_41 rfl ?_
        refine r_cv1 cd_Defence_shotsPastOthers_42 rfl ck_Defence_shotsPastOthers_Rods_keeperOf rfl (Nat.le_of_ble_eq_true rfl) (sp_kp ⟨by omega, by omega⟩) ?_
        refine r_icmp_eq cd_Defence_shotsPastOthers_45 ⟨by omega, by omega⟩ ⟨by omega, by omega⟩ (fun c_45 => ?_) (fun c_45 => ?_)
        · skip
          refine r_iconst cd_Defence_shotsPastOthers_57 ?_
          refine r_goto cd_Defence_shotsPastOthers_58 ?_
          refine r_istore7_6 cd_Defence_shotsPastOthers_62 rfl ?_
          refine r_iload cd_Defence_shotsPastOthers_64 rfl ?_
          refine r_iload_n cd_Defence_shotsPastOthers_66 rfl ?_
          refine r_cv2 cd_Defence_shotsPastOthers_67 rfl ck_Defence_shotsPastOthers_Rods_isOf rfl (Nat.le_of_ble_eq_true rfl) (sp_Rods_isOf (r := at_ w 16 + i * upw (1 - s)) ⟨by omega, by omega⟩ ⟨by omega, by omega⟩) ?_
          refine r_ifeq_p cd_Defence_shotsPastOthers_70 (fun c_70 => ?_) (fun c_70 => ?_)
          · skip
            refine r_iinc7_4 cd_Defence_shotsPastOthers_90 rfl ?_
            refine r_goto cd_Defence_shotsPastOthers_93 ?_
            exact e9 _ _
          · skip
            refine r_iload cd_Defence_shotsPastOthers_73 rfl ?_
            refine r_if_ne cd_Defence_shotsPastOthers_75 ⟨by decide, by decide⟩ (fun _ => ?_) (fun c_75 => absurd c_75 (by decide))
            refine r_iinc7_4 cd_Defence_shotsPastOthers_90 rfl ?_
            refine r_goto cd_Defence_shotsPastOthers_93 ?_
            exact e9 _ _
        · skip
          refine r_iload cd_Defence_shotsPastOthers_48 rfl ?_
          refine r_iload_n cd_Defence_shotsPastOthers_50 rfl ?_
          refine r_cv1 cd_Defence_shotsPastOthers_51 rfl ck_Defence_shotsPastOthers_Rods_backsOf rfl (Nat.le_of_ble_eq_true rfl) (sp_bk ⟨by omega, by omega⟩) ?_
          refine r_icmp_ne cd_Defence_shotsPastOthers_54 ⟨by omega, by omega⟩ ⟨by omega, by omega⟩ (fun c_54 => ?_) (fun c_54 => ?_)
          · skip
            refine r_iconst cd_Defence_shotsPastOthers_61 ?_
            refine r_istore7_6 cd_Defence_shotsPastOthers_62 rfl ?_
            refine r_iload cd_Defence_shotsPastOthers_64 rfl ?_
            refine r_iload_n cd_Defence_shotsPastOthers_66 rfl ?_
            refine r_cv2 cd_Defence_shotsPastOthers_67 rfl ck_Defence_shotsPastOthers_Rods_isOf rfl (Nat.le_of_ble_eq_true rfl) (sp_Rods_isOf (r := at_ w 16 + i * upw (1 - s)) ⟨by omega, by omega⟩ ⟨by omega, by omega⟩) ?_
            refine r_ifeq_p cd_Defence_shotsPastOthers_70 (fun c_70 => ?_) (fun c_70 => ?_)
            · skip
              refine r_iinc7_4 cd_Defence_shotsPastOthers_90 rfl ?_
              refine r_goto cd_Defence_shotsPastOthers_93 ?_
              exact e9 _ _
            · skip
              refine r_iload cd_Defence_shotsPastOthers_73 rfl ?_
              refine r_if_ne cd_Defence_shotsPastOthers_75 ⟨by decide, by decide⟩ (fun c_75 => absurd c_75 (by decide)) (fun _ => ?_)
              exact absurd ⟨c_70, c_45, c_54⟩ zc
          · skip
            refine r_iconst cd_Defence_shotsPastOthers_57 ?_
            refine r_goto cd_Defence_shotsPastOthers_58 ?_
            refine r_istore7_6 cd_Defence_shotsPastOthers_62 rfl ?_
            refine r_iload cd_Defence_shotsPastOthers_64 rfl ?_
            refine r_iload_n cd_Defence_shotsPastOthers_66 rfl ?_
            refine r_cv2 cd_Defence_shotsPastOthers_67 rfl ck_Defence_shotsPastOthers_Rods_isOf rfl (Nat.le_of_ble_eq_true rfl) (sp_Rods_isOf (r := at_ w 16 + i * upw (1 - s)) ⟨by omega, by omega⟩ ⟨by omega, by omega⟩) ?_
            refine r_ifeq_p cd_Defence_shotsPastOthers_70 (fun c_70 => ?_) (fun c_70 => ?_)
            · skip
              refine r_iinc7_4 cd_Defence_shotsPastOthers_90 rfl ?_
              refine r_goto cd_Defence_shotsPastOthers_93 ?_
              exact e9 _ _
            · skip
              refine r_iload cd_Defence_shotsPastOthers_73 rfl ?_
              refine r_if_ne cd_Defence_shotsPastOthers_75 ⟨by decide, by decide⟩ (fun _ => ?_) (fun c_75 => absurd c_75 (by decide))
              refine r_iinc7_4 cd_Defence_shotsPastOthers_90 rfl ?_
              refine r_goto cd_Defence_shotsPastOthers_93 ?_
              exact e9 _ _
theorem sp_spo {s li sl : Int} (hs : s = 0 ∨ s = 1) (hD : h[12]? = some (dobj li sl)) (hT : TabAt h 13 w) (hw : WF w) (ha : at_ w 16 ≠ -6) : Sp xs m_Defence_shotsPastOthers [vR 12, vI s] h (some (vI (bsN (opn w s) 19 : Nat))) h := by
  refine en_Defence_shotsPastOthers ?_
  refine r_aload_n cd_Defence_shotsPastOthers_0 rfl ?_
  refine r_getfield cd_Defence_shotsPastOthers_1 hD rfl ?_
  refine r_vv0 cd_Defence_shotsPastOthers_4 rfl ck_Defence_shotsPastOthers_Table_shotsToGoal (Nat.le_of_ble_eq_true rfl) hT.1 rfl (sp_shotsToGoal hT hw ha) ?_
  refine r_istoren7_2 cd_Defence_shotsPastOthers_7 rfl ?_
  refine r_iconst cd_Defence_shotsPastOthers_8 ?_
  refine r_iload_n cd_Defence_shotsPastOthers_9 rfl ?_
  refine r_isub cd_Defence_shotsPastOthers_10 ?_
  refine r_cv1 cd_Defence_shotsPastOthers_11 rfl ck_Defence_shotsPastOthers_Rods_stepToGoalOf rfl (Nat.le_of_ble_eq_true rfl) (sp_upw ⟨by omega, by omega⟩) ?_
  refine r_istoren7_3 cd_Defence_shotsPastOthers_14 rfl ?_
  refine r_iconst cd_Defence_shotsPastOthers_15 ?_
  refine r_istore7_4 cd_Defence_shotsPastOthers_16 rfl ?_
  exact lp_spo hs hD hT hw ha 7 1 (gls w) vU vU (by omega) (by omega)
end C49
