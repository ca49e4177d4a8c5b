-- contracts of Table: who covers, who is nearest, passes over, shots
section C33
variable {xs : List Int} {h : MH} {t : Nat} {w : List Int}
theorem lp_covererOf {r p : Int} (hT : TabAt h t w) (hw : WF w) (h0 : 0 ≤ r) (h1 : r < 8) (p0 : -200 ≤ p) (p1 : p ≤ 200) : ∀ (k : Nat) (m : Int), 0 ≤ m → m + k = men r → Rn xs m_Table_covererOf 15 [vR t, vI r, vI p, vI (at_ w r), vI (gap r), vI m] [] h (some (vI (covA (at_ w r) (gap r) p k m))) h := by
  intro k
  have hm := men_bd h0 h1
  induction k with
  | zero =>
    intro m m0 m1
    refine r_iload cd_Table_covererOf_15 rfl ?_
    refine r_iload_n cd_Table_covererOf_17 rfl ?_
    refine r_cv1 cd_Table_covererOf_18 rfl ck_Table_covererOf_Rods_menOf rfl (Nat.le_of_ble_eq_true rfl) (sp_men h0 h1) ?_
    refine r_icmp_ge cd_Table_covererOf_21 ⟨by omega, by omega⟩ ⟨by omega, by omega⟩ (fun c_21 => ?_) (fun c_21 => ?_)
    · skip
      refine r_iconst cd_Table_covererOf_49 ?_
      exact r_iret cd_Table_covererOf_50 rt_Table_covererOf (by first | rfl | omega | (split <;> first | rfl | omega)) (by rfl)
    · skip
      omega
  | succ k ih =>
    intro m m0 m1
    have a1 := hw.2.1 r h0 h1
    have a2 := mg_bd h0 h1 m0 (by omega : m < men r)
    have a3 := wid_bd h0 h1
    refine r_iload cd_Table_covererOf_15 rfl ?_
    refine r_iload_n cd_Table_covererOf_17 rfl ?_
    refine r_cv1 cd_Table_covererOf_18 rfl ck_Table_covererOf_Rods_menOf rfl (Nat.le_of_ble_eq_true rfl) (sp_men h0 h1) ?_
    refine r_icmp_ge cd_Table_covererOf_21 ⟨by omega, by omega⟩ ⟨by omega, by omega⟩ (fun c_21 => ?_) (fun c_21 => ?_)
    · skip
      omega
    · skip
      refine r_iload_n cd_Table_covererOf_24 rfl ?_
      refine r_iload cd_Table_covererOf_25 rfl ?_
      refine r_iload cd_Table_covererOf_27 rfl ?_
      refine r_imul cd_Table_covererOf_29 ?_
      refine r_iadd cd_Table_covererOf_30 ?_
      refine r_iload_n cd_Table_covererOf_31 rfl ?_
      refine r_isub cd_Table_covererOf_32 ?_
      refine r_cv1 cd_Table_covererOf_33 rfl ck_Table_covererOf_Math_abs rfl (Nat.le_of_ble_eq_true rfl) (sp_Math_abs ⟨by omega, by omega⟩) ?_
      refine r_iconst cd_Table_covererOf_36 ?_
      refine r_icmp_gt cd_Table_covererOf_37 ⟨by unfold zabs; split <;> omega, by unfold zabs; split <;> omega⟩ ⟨by decide, by decide⟩ (fun c_37 => ?_) (fun c_37 => ?_)
      · skip
        refine r_iinc6_5 cd_Table_covererOf_43 rfl ?_
        refine r_goto cd_Table_covererOf_46 ?_
        (have e9 := ih (m + 1) (by omega) (by omega); unfold covA; unfold zabs at c_37; rw [if_neg (by split at c_37 <;> omega)]; exact e9)
      · skip
        refine r_iload cd_Table_covererOf_40 rfl ?_
        exact r_iret cd_Table_covererOf_42 rt_Table_covererOf (by (unfold covA; unfold zabs at c_37; rw [if_pos (by split at c_37 <;> omega)])) (by rfl)
theorem sp_covererOf {r p : Int} (hT : TabAt h t w) (hw : WF w) (h0 : 0 ≤ r) (h1 : r < 8) (p0 : -200 ≤ p) (p1 : p ≤ 200) : Sp xs m_Table_covererOf [vR t, vI r, vI p] h (some (vI (cov w r p))) h := by
  refine en_Table_covererOf ?_
  have hm := men_bd h0 h1
  refine r_aload_n cd_Table_covererOf_0 rfl ?_
  refine r_iload_n cd_Table_covererOf_1 rfl ?_
  refine r_vv1 cd_Table_covererOf_2 rfl ck_Table_covererOf_Table_slideOf (Nat.le_of_ble_eq_true rfl) hT.1 rfl (sp_slideOf hT hw h0 h1) ?_
  refine r_istoren6_3 cd_Table_covererOf_5 rfl ?_
  refine r_iload_n cd_Table_covererOf_6 rfl ?_
  refine r_cv1 cd_Table_covererOf_7 rfl ck_Table_covererOf_Rods_gapOf rfl (Nat.le_of_ble_eq_true rfl) (sp_gap h0 h1) ?_
  refine r_istore6_4 cd_Table_covererOf_10 rfl ?_
  refine r_iconst cd_Table_covererOf_12 ?_
  refine r_istore6_5 cd_Table_covererOf_13 rfl ?_
  exact lp_covererOf hT hw h0 h1 p0 p1 _ 0 (by omega) (by omega)
def neA (f g p : Int) : Nat → Int → Int → Int
  | 0, _, n => n
  | k + 1, m, n => neA f g p k (m + 1) (if zabs (f + m * g - p) < zabs (f + n * g - p) then m else n)
def nea (w : List Int) (r p : Int) : Int := neA (at_ w r) (gap r) p (men r - 1).toNat 1 0
theorem neA_bd (f g p : Int) : ∀ (k : Nat) (m n : Int), 0 ≤ n → n < m → 0 ≤ neA f g p k m n ∧ neA f g p k m n < m + k
  | 0, m, n, h0, h1 => by unfold neA; omega
  | k + 1, m, n, h0, h1 => by
    have := neA_bd f g p k (m + 1) (if zabs (f + m * g - p) < zabs (f + n * g - p) then m else n) (by split <;> omega) (by split <;> omega)
    unfold neA
    omega
theorem nea_bd (w : List Int) {r p : Int} (h0 : 0 ≤ r) (h1 : r < 8) : 0 ≤ nea w r p ∧ nea w r p < men r := by
  have hm := men_bd h0 h1
  have := neA_bd (at_ w r) (gap r) p (men r - 1).toNat 1 0 (by omega) (by omega)
  unfold nea
  omega
theorem zabs_bd {x : Int} {n : Int} (h0 : -n ≤ x) (h1 : x ≤ n) : 0 ≤ zabs x ∧ zabs x ≤ n := by unfold zabs; split <;> omega
theorem lp_nearestOf {r p : Int} (hT : TabAt h t w) (hw : WF w) (h0 : 0 ≤ r) (h1 : r < 8) (p0 : -200 ≤ p) (p1 : p ≤ 200) : ∀ (k : Nat) (m n : Int), 0 ≤ n → n < m → m + k = men r → Rn xs m_Table_nearestOf 18 [vR t, vI r, vI p, vI (at_ w r), vI (gap r), vI n, vI m] [] h (some (vI (neA (at_ w r) (gap r) p k m n))) h := by
  intro k
  have hm := men_bd h0 h1
  induction k with
  | zero =>
    intro m n n0 n1 m1
    refine r_iload cd_Table_nearestOf_18 rfl ?_
    refine r_iload_n cd_Table_nearestOf_20 rfl ?_
    refine r_cv1 cd_Table_nearestOf_21 rfl ck_Table_nearestOf_Rods_menOf rfl (Nat.le_of_ble_eq_true rfl) (sp_men h0 h1) ?_
    refine r_icmp_ge cd_Table_nearestOf_24 ⟨by omega, by omega⟩ ⟨by omega, by omega⟩ (fun c_24 => ?_) (fun c_24 => ?_)
    · skip
      refine r_iload cd_Table_nearestOf_64 rfl ?_
      exact r_iret cd_Table_nearestOf_66 rt_Table_nearestOf (by first | rfl | omega | (split <;> first | rfl | omega)) (by rfl)
    · skip
      omega
  | succ k ih =>
    intro m n n0 n1 m1
    have a1 := hw.2.1 r h0 h1
    have a2 := mg_bd h0 h1 (by omega : 0 ≤ m) (by omega : m < men r)
    have a4 := mg_bd h0 h1 n0 (by omega : n < men r)
    have a3 := wid_bd h0 h1
    have b1 := zabs_bd (x := at_ w r + m * gap r - p) (n := 1000) (by omega) (by omega)
    have b2 := zabs_bd (x := at_ w r + n * gap r - p) (n := 1000) (by omega) (by omega)
    refine r_iload cd_Table_nearestOf_18 rfl ?_
    refine r_iload_n cd_Table_nearestOf_20 rfl ?_
    refine r_cv1 cd_Table_nearestOf_21 rfl ck_Table_nearestOf_Rods_menOf rfl (Nat.le_of_ble_eq_true rfl) (sp_men h0 h1) ?_
    refine r_icmp_ge cd_Table_nearestOf_24 ⟨by omega, by omega⟩ ⟨by omega, by omega⟩ (fun c_24 => ?_) (fun c_24 => ?_)
    · skip
      omega
    · skip
      refine r_iload_n cd_Table_nearestOf_27 rfl ?_
      refine r_iload cd_Table_nearestOf_28 rfl ?_
      refine r_iload cd_Table_nearestOf_30 rfl ?_
      refine r_imul cd_Table_nearestOf_32 ?_
      refine r_iadd cd_Table_nearestOf_33 ?_
      refine r_iload_n cd_Table_nearestOf_34 rfl ?_
      refine r_isub cd_Table_nearestOf_35 ?_
      refine r_cv1 cd_Table_nearestOf_36 rfl ck_Table_nearestOf_Math_abs rfl (Nat.le_of_ble_eq_true rfl) (sp_Math_abs ⟨by omega, by omega⟩) ?_
      refine r_iload_n cd_Table_nearestOf_39 rfl ?_
      refine r_iload cd_Table_nearestOf_40 rfl ?_
      refine r_iload cd_Table_nearestOf_42 rfl ?_
      refine r_imul cd_Table_nearestOf_44 ?_
      refine r_iadd cd_Table_nearestOf_45 ?_
      refine r_iload_n cd_Table_nearestOf_46 rfl ?_
      refine r_isub cd_Table_nearestOf_47 ?_
      refine r_cv1 cd_Table_nearestOf_48 rfl ck_Table_nearestOf_Math_abs rfl (Nat.le_of_ble_eq_true rfl) (sp_Math_abs ⟨by omega, by omega⟩) ?_
      refine r_icmp_ge cd_Table_nearestOf_51 ⟨by omega, by omega⟩ ⟨by omega, by omega⟩ (fun c_51 => ?_) (fun c_51 => ?_)
      · skip
        refine r_iinc7_6 cd_Table_nearestOf_58 rfl ?_
        refine r_goto cd_Table_nearestOf_61 ?_
        first | (have e9 := ih (m + 1) m (by omega) (by omega) (by omega); unfold neA; rw [if_pos c_51]; exact e9) | (have e9 := ih (m + 1) n (by omega) (by omega) (by omega); unfold neA; rw [if_neg (by omega)]; exact e9)
      · skip
        refine r_iload cd_Table_nearestOf_54 rfl ?_
        refine r_istore7_5 cd_Table_nearestOf_56 rfl ?_
        refine r_iinc7_6 cd_Table_nearestOf_58 rfl ?_
        refine r_goto cd_Table_nearestOf_61 ?_
        first | (have e9 := ih (m + 1) m (by omega) (by omega) (by omega); unfold neA; rw [if_pos c_51]; exact e9) | (have e9 := ih (m + 1) n (by omega) (by omega) (by omega); unfold neA; rw [if_neg (by omega)]; exact e9)
theorem sp_nearestOf {r p : Int} (hT : TabAt h t w) (hw : WF w) (h0 : 0 ≤ r) (h1 : r < 8) (p0 : -200 ≤ p) (p1 : p ≤ 200) : Sp xs m_Table_nearestOf [vR t, vI r, vI p] h (some (vI (nea w r p))) h := by
  refine en_Table_nearestOf ?_
  have hm := men_bd h0 h1
  refine r_aload_n cd_Table_nearestOf_0 rfl ?_
  refine r_iload_n cd_Table_nearestOf_1 rfl ?_
  refine r_vv1 cd_Table_nearestOf_2 rfl ck_Table_nearestOf_Table_slideOf (Nat.le_of_ble_eq_true rfl) hT.1 rfl (sp_slideOf hT hw h0 h1) ?_
  refine r_istoren7_3 cd_Table_nearestOf_5 rfl ?_
  refine r_iload_n cd_Table_nearestOf_6 rfl ?_
  refine r_cv1 cd_Table_nearestOf_7 rfl ck_Table_nearestOf_Rods_gapOf rfl (Nat.le_of_ble_eq_true rfl) (sp_gap h0 h1) ?_
  refine r_istore7_4 cd_Table_nearestOf_10 rfl ?_
  refine r_iconst cd_Table_nearestOf_12 ?_
  refine r_istore7_5 cd_Table_nearestOf_13 rfl ?_
  refine r_iconst cd_Table_nearestOf_15 ?_
  refine r_istore7_6 cd_Table_nearestOf_16 rfl ?_
  exact lp_nearestOf hT hw h0 h1 p0 p1 _ 1 0 (by omega) (by omega) (by omega)
-- a ball that bounces
def bnc (z : Int) : Int := if z % 80 ≤ 40 then z % 80 else 80 - z % 80
theorem bnc_bd (z : Int) : 0 ≤ bnc z ∧ bnc z ≤ 40 := by unfold bnc; split <;> omega
theorem xor_k : ∀ k : Nat, k < 401 → (bXor ((k : Int) - 200) 80 < 0 ↔ (k : Int) - 200 < 0) ∧ -1000 ≤ bXor ((k : Int) - 200) 80 ∧ bXor ((k : Int) - 200) 80 ≤ 1000 := by decide +kernel
theorem xor_80 {z : Int} (h0 : -200 ≤ z) (h1 : z ≤ 200) : (bXor z 80 < 0 ↔ z < 0) ∧ -1000 ≤ bXor z 80 ∧ bXor z 80 ≤ 1000 := by
  have := xor_k (z + 200).toNat (by omega)
  rwa [show (((z + 200).toNat : Nat) : Int) - 200 = z by omega] at this
theorem sp_floorMod80 {z : Int} (h0 : -200 ≤ z) (h1 : z ≤ 200) : Sp xs m_Math_floorMod [vI z, vI 80] h (some (vI (z % 80))) h := by
  obtain ⟨x1, x2, x3⟩ := xor_80 h0 h1
  have hq : z.tmod 80 = if z < 0 then -((-z) % 80) else z % 80 := by
    split
    · rw [show z = -(-z) by omega, Int.neg_tmod, Int.tmod_eq_emod_of_nonneg (by omega)]
      simp
    · rw [Int.tmod_eq_emod_of_nonneg (by omega)]
  refine en_Math_floorMod ?_
  refine r_iload_n cd_Math_floorMod_0 rfl ?_
  refine r_iload_n cd_Math_floorMod_1 rfl ?_
  refine r_irem cd_Math_floorMod_2 ⟨by omega, by omega⟩ ⟨by omega, by omega⟩ (by omega) ?_
  refine r_istoren3_2 cd_Math_floorMod_3 rfl ?_
  refine r_iload_n cd_Math_floorMod_4 rfl ?_
  refine r_iload_n cd_Math_floorMod_5 rfl ?_
  refine r_ixor cd_Math_floorMod_6 ?_
  refine r_if_ge cd_Math_floorMod_7 ⟨by omega, by omega⟩ (fun c_7 => ?_) (fun c_7 => ?_)
  · skip
    refine r_iload_n cd_Math_floorMod_18 rfl ?_
    exact r_iret cd_Math_floorMod_19 rt_Math_floorMod (by rw [hq] at *; split at * <;> omega) (by rfl)
  · skip
    refine r_iload_n cd_Math_floorMod_10 rfl ?_
    refine r_if_eq cd_Math_floorMod_11 ⟨by rw [hq]; split <;> omega, by rw [hq]; split <;> omega⟩ (fun c_11 => ?_) (fun c_11 => ?_)
    · skip
      refine r_iload_n cd_Math_floorMod_18 rfl ?_
      exact r_iret cd_Math_floorMod_19 rt_Math_floorMod (by rw [hq] at *; split at * <;> omega) (by rfl)
    · skip
      refine r_iload_n cd_Math_floorMod_14 rfl ?_
      refine r_iload_n cd_Math_floorMod_15 rfl ?_
      refine r_iadd cd_Math_floorMod_16 ?_
      exact r_iret cd_Math_floorMod_17 rt_Math_floorMod (by rw [hq] at *; split at * <;> omega) (by rfl)
theorem sp_bounced {z : Int} (h0 : -200 ≤ z) (h1 : z ≤ 200) : Sp xs m_Table_bounced [vI z] h (some (vI (bnc z))) h := by
  refine en_Table_bounced ?_
  refine r_iload_n cd_Table_bounced_0 rfl ?_
  refine r_bipush cd_Table_bounced_1 ?_
  refine r_cv2 cd_Table_bounced_3 rfl ck_Table_bounced_Math_floorMod rfl (Nat.le_of_ble_eq_true rfl) (sp_floorMod80 h0 h1) ?_
  refine r_istoren2_1 cd_Table_bounced_6 rfl ?_
  refine r_iload_n cd_Table_bounced_7 rfl ?_
  refine r_bipush cd_Table_bounced_8 ?_
  refine r_icmp_le cd_Table_bounced_10 ⟨by omega, by omega⟩ ⟨by decide, by decide⟩ (fun c_10 => ?_) (fun c_10 => ?_)
  · skip
    refine r_iload_n cd_Table_bounced_20 rfl ?_
    exact r_iret cd_Table_bounced_21 rt_Table_bounced (by unfold bnc; split <;> omega) (by rfl)
  · skip
    refine r_bipush cd_Table_bounced_13 ?_
    refine r_iload_n cd_Table_bounced_15 rfl ?_
    refine r_isub cd_Table_bounced_16 ?_
    refine r_goto cd_Table_bounced_17 ?_
    exact r_iret cd_Table_bounced_21 rt_Table_bounced (by unfold bnc; split <;> omega) (by rfl)
-- passes over
def stp (r to : Int) : Int := if r < to then 1 else -1
def ovA (w : List Int) (r to p sd e : Int) : Nat → Int → Int
  | 0, _ => e
  | k + 1, i => if r + i * stp r to = to then e else if (0 ≤ r + i * stp r to ∧ r + i * stp r to < 8 ∧ sid (r + i * stp r to) = 1 - sd) ∧ cov w (r + i * stp r to) p ≠ -1 then 10 * (r + i * stp r to) + cov w (r + i * stp r to) p else ovA w r to p sd e k (i + 1)
def ovr (w : List Int) (r m to : Int) : Int :=
  if to = r ∨ ¬ (0 ≤ to ∧ to < 8 ∧ sid to = sid r) then -1
  else if 3 < zabs (pos w to (nea w to (pos w r m)) - pos w r m) then -1
  else ovA w r to (pos w r m) (sid r) (10 * to + nea w to (pos w r m)) 7 1
theorem stp_or (r to : Int) : stp r to = 1 ∨ stp r to = -1 := by unfold stp; split <;> simp
theorem lp_overFrom {r m to p n : Int} (hT : TabAt h t w) (hw : WF w) (h0 : 0 ≤ r) (h1 : r < 8) (t0 : 0 ≤ to) (t1 : to < 8) (p0 : -200 ≤ p) (p1 : p ≤ 200) : ∀ (k : Nat) (i : Int) (x9 x10 : MV), 1 ≤ i → i + k = 8 → Rn xs m_Table_overFrom 73 [vR t, vI r, vI m, vI to, vI (sid r), vI p, vI n, vI (stp r to), vI i, x9, x10] [] h (some (vI (ovA w r to p (sid r) (10 * to + n) k i))) h := by
  intro k
  have hs := sid_bd h0 h1
  have hst := stp_or r to
  induction k with
  | zero =>
    intro i x9 x10 i0 i1
    refine r_iload cd_Table_overFrom_73 rfl ?_
    refine r_bipush cd_Table_overFrom_75 ?_
    refine r_icmp_ge cd_Table_overFrom_77 ⟨by omega, by omega⟩ ⟨by decide, by decide⟩ (fun c_77 => ?_) (fun c_77 => ?_)
    · skip
      refine r_bipush cd_Table_overFrom_145 ?_
      refine r_iload_n cd_Table_overFrom_147 rfl ?_
      refine r_imul cd_Table_overFrom_148 ?_
      refine r_iload cd_Table_overFrom_149 rfl ?_
      refine r_iadd cd_Table_overFrom_151 ?_
      exact r_iret cd_Table_overFrom_152 rt_Table_overFrom (by first | rfl | omega | (split <;> first | rfl | omega)) (by rfl)
    · skip
      omega
  | succ k ih =>
    intro i x9 x10 i0 i1
    have hb : r + i * stp r to = r + i ∨ r + i * stp r to = r - i := by rcases hst with z | z <;> rw [z] <;> omega
    have hc := fun (q0 : 0 ≤ r + i * stp r to) (q1 : r + i * stp r to < 8) => cov_bd w (p := p) q0 q1
    have hmn := fun (q0 : 0 ≤ r + i * stp r to) (q1 : r + i * stp r to < 8) => men_bd q0 q1
    refine r_iload cd_Table_overFrom_73 rfl ?_
    refine r_bipush cd_Table_overFrom_75 ?_
    refine r_icmp_ge cd_Table_overFrom_77 ⟨by omega, by omega⟩ ⟨by decide, by decide⟩ (fun c_77 => ?_) (fun c_77 => ?_)
    · skip
      refine r_bipush cd_Table_overFrom_145 ?_
      refine r_iload_n cd_Table_overFrom_147 rfl ?_
      refine r_imul cd_Table_overFrom_148 ?_
      refine r_iload cd_Table_overFrom_149 rfl ?_
      refine r_iadd cd_Table_overFrom_151 ?_
      exact r_iret cd_Table_overFrom_152 rt_Table_overFrom (by first | omega | (unfold ovA; rw [if_pos c_92])) (by rfl)
    · skip
      refine r_iload_n cd_Table_overFrom_80 rfl ?_
      refine r_iload cd_Table_overFrom_81 rfl ?_
      refine r_iload cd_Table_overFrom_83 rfl ?_
      refine r_imul cd_Table_overFrom_85 ?_
      refine r_iadd cd_Table_overFrom_86 ?_
      refine r_istore11_9 cd_Table_overFrom_87 rfl ?_
      refine r_iload cd_Table_overFrom_89 rfl ?_
      refine r_iload_n cd_Table_overFrom_91 rfl ?_
      refine r_icmp_ne cd_Table_overFrom_92 ⟨by omega, by omega⟩ ⟨by omega, by omega⟩ (fun c_92 => ?_) (fun c_92 => ?_)
      · skip
        refine r_iload cd_Table_overFrom_98 rfl ?_
        refine r_iconst cd_Table_overFrom_100 ?_
        refine r_iload cd_Table_overFrom_101 rfl ?_
        refine r_isub cd_Table_overFrom_103 ?_
        refine r_cv2 cd_Table_overFrom_104 rfl ck_Table_overFrom_Rods_isOf rfl (Nat.le_of_ble_eq_true rfl) (sp_Rods_isOf ⟨by omega, by omega⟩ ⟨by omega, by omega⟩) ?_
        refine r_ifeq_p cd_Table_overFrom_107 (fun c_107 => ?_) (fun c_107 => ?_)
        · skip
          refine r_iconst cd_Table_overFrom_121 ?_
          refine r_istore11_10 cd_Table_overFrom_122 rfl ?_
          refine r_iload cd_Table_overFrom_124 rfl ?_
          refine r_iconst cd_Table_overFrom_126 ?_
          refine r_icmp_eq cd_Table_overFrom_127 ⟨by decide, by decide⟩ ⟨by decide, by decide⟩ (fun _ => ?_) (fun c_127 => absurd c_127 (by decide))
          refine r_iinc11_8 cd_Table_overFrom_139 rfl ?_
          refine r_goto cd_Table_overFrom_142 ?_
          (have e9 := fun x y => ih (i + 1) x y (by omega) (by omega); unfold ovA; rw [if_neg c_92, if_neg (fun z => by first | exact c_107 z.1 | exact z.2 c_127)]; exact e9 _ _)
        · skip
          refine r_aload_n cd_Table_overFrom_110 rfl ?_
          refine r_iload cd_Table_overFrom_111 rfl ?_
          refine r_iload cd_Table_overFrom_113 rfl ?_
          refine r_vv2 cd_Table_overFrom_115 rfl ck_Table_overFrom_Table_covererOf (Nat.le_of_ble_eq_true rfl) hT.1 rfl (sp_covererOf hT hw c_107.1 c_107.2.1 p0 p1) ?_
          refine r_goto cd_Table_overFrom_118 ?_
          refine r_istore11_10 cd_Table_overFrom_122 rfl ?_
          refine r_iload cd_Table_overFrom_124 rfl ?_
          refine r_iconst cd_Table_overFrom_126 ?_
          refine r_icmp_eq cd_Table_overFrom_127 ⟨by first | omega | (have q1 := hc c_107.1 c_107.2.1; have q2 := hmn c_107.1 c_107.2.1; omega), by first | omega | (have q1 := hc c_107.1 c_107.2.1; have q2 := hmn c_107.1 c_107.2.1; omega)⟩ ⟨by decide, by decide⟩ (fun c_127 => ?_) (fun c_127 => ?_)
          · skip
            refine r_iinc11_8 cd_Table_overFrom_139 rfl ?_
            refine r_goto cd_Table_overFrom_142 ?_
            (have e9 := fun x y => ih (i + 1) x y (by omega) (by omega); unfold ovA; rw [if_neg c_92, if_neg (fun z => by first | exact c_107 z.1 | exact z.2 c_127)]; exact e9 _ _)
          · skip
            refine r_bipush cd_Table_overFrom_130 ?_
            refine r_iload cd_Table_overFrom_132 rfl ?_
            refine r_imul cd_Table_overFrom_134 ?_
            refine r_iload cd_Table_overFrom_135 rfl ?_
            refine r_iadd cd_Table_overFrom_137 ?_
            exact r_iret cd_Table_overFrom_138 rt_Table_overFrom (by first | exact absurd rfl c_127 | (unfold ovA; rw [if_neg c_92, if_pos ⟨c_107, c_127⟩])) (by rfl)
      · skip
        refine r_goto cd_Table_overFrom_95 ?_
        refine r_bipush cd_Table_overFrom_145 ?_
        refine r_iload_n cd_Table_overFrom_147 rfl ?_
        refine r_imul cd_Table_overFrom_148 ?_
        refine r_iload cd_Table_overFrom_149 rfl ?_
        refine r_iadd cd_Table_overFrom_151 ?_
        exact r_iret cd_Table_overFrom_152 rt_Table_overFrom (by first | omega | (unfold ovA; rw [if_pos c_92])) (by rfl)
theorem sp_overFrom {r m to : Int} (hT : TabAt h t w) (hw : WF w) (h0 : 0 ≤ r) (h1 : r < 8) (m0 : 0 ≤ m) (m1 : m < men r) (t0 : 0 ≤ to) (t1 : to < 8) : Sp xs m_Table_overFrom [vR t, vI r, vI m, vI to] h (some (vI (ovr w r m to))) h := by
  have hs := sid_bd h0 h1
  have hp := pos_bd hw h0 h1 m0 m1
  have hn := nea_bd w (p := pos w r m) t0 t1
  have hq := pos_bd hw t0 t1 hn.1 hn.2
  have hz := zabs_bd (x := pos w to (nea w to (pos w r m)) - pos w r m) (n := 100) (by omega) (by omega)
  refine en_Table_overFrom ?_
  refine r_iload_n cd_Table_overFrom_0 rfl ?_
  refine r_cv1 cd_Table_overFrom_1 rfl ck_Table_overFrom_Rods_sideOf rfl (Nat.le_of_ble_eq_true rfl) (sp_sid h0 h1) ?_
  refine r_istore11_4 cd_Table_overFrom_4 rfl ?_
  refine r_iload_n cd_Table_overFrom_6 rfl ?_
  refine r_iload_n cd_Table_overFrom_7 rfl ?_
  refine r_icmp_eq cd_Table_overFrom_8 ⟨by omega, by omega⟩ ⟨by omega, by omega⟩ (fun c_8 => ?_) (fun c_8 => ?_)
  · skip
    refine r_iconst cd_Table_overFrom_20 ?_
    exact r_iret cd_Table_overFrom_21 rt_Table_overFrom (by unfold ovr; first | (rw [if_pos (Or.inl c_8)]; done) | (rw [if_pos (Or.inr c_17)]; done)) (by rfl)
  · skip
    refine r_iload_n cd_Table_overFrom_11 rfl ?_
    refine r_iload cd_Table_overFrom_12 rfl ?_
    refine r_cv2 cd_Table_overFrom_14 rfl ck_Table_overFrom_Rods_isOf rfl (Nat.le_of_ble_eq_true rfl) (sp_Rods_isOf ⟨by omega, by omega⟩ ⟨by omega, by omega⟩) ?_
    refine r_ifne_p cd_Table_overFrom_17 (fun c_17 => ?_) (fun c_17 => ?_)
    · skip
      refine r_aload_n cd_Table_overFrom_22 rfl ?_
      refine r_iload_n cd_Table_overFrom_23 rfl ?_
      refine r_iload_n cd_Table_overFrom_24 rfl ?_
      refine r_vv2 cd_Table_overFrom_25 rfl ck_Table_overFrom_Table_placeOf (Nat.le_of_ble_eq_true rfl) hT.1 rfl (sp_placeOf hT hw h0 h1) ?_
      refine r_istore11_5 cd_Table_overFrom_28 rfl ?_
      refine r_aload_n cd_Table_overFrom_30 rfl ?_
      refine r_iload_n cd_Table_overFrom_31 rfl ?_
      refine r_iload cd_Table_overFrom_32 rfl ?_
      refine r_vv2 cd_Table_overFrom_34 rfl ck_Table_overFrom_Table_nearestOf (Nat.le_of_ble_eq_true rfl) hT.1 rfl (sp_nearestOf hT hw t0 t1 (by omega) (by omega)) ?_
      refine r_istore11_6 cd_Table_overFrom_37 rfl ?_
      refine r_aload_n cd_Table_overFrom_39 rfl ?_
      refine r_iload_n cd_Table_overFrom_40 rfl ?_
      refine r_iload cd_Table_overFrom_41 rfl ?_
      refine r_vv2 cd_Table_overFrom_43 rfl ck_Table_overFrom_Table_placeOf (Nat.le_of_ble_eq_true rfl) hT.1 rfl (sp_placeOf hT hw t0 t1) ?_
      refine r_iload cd_Table_overFrom_46 rfl ?_
      refine r_isub cd_Table_overFrom_48 ?_
      refine r_cv1 cd_Table_overFrom_49 rfl ck_Table_overFrom_Math_abs rfl (Nat.le_of_ble_eq_true rfl) (sp_Math_abs ⟨by omega, by omega⟩) ?_
      refine r_iconst cd_Table_overFrom_52 ?_
      refine r_icmp_le cd_Table_overFrom_53 ⟨by omega, by omega⟩ ⟨by decide, by decide⟩ (fun c_53 => ?_) (fun c_53 => ?_)
      · skip
        refine r_iload_n cd_Table_overFrom_58 rfl ?_
        refine r_iload_n cd_Table_overFrom_59 rfl ?_
        refine r_icmp_le cd_Table_overFrom_60 ⟨by omega, by omega⟩ ⟨by omega, by omega⟩ (fun c_60 => ?_) (fun c_60 => ?_)
        · skip
          refine r_iconst cd_Table_overFrom_67 ?_
          refine r_istore11_7 cd_Table_overFrom_68 rfl ?_
          refine r_iconst cd_Table_overFrom_70 ?_
          refine r_istore11_8 cd_Table_overFrom_71 rfl ?_
          first
            | (have hst : stp r to = 1 := (by unfold stp; rw [if_pos c_60])
               have e9 := lp_overFrom (xs := xs) (m := m) (n := nea w to (pos w r m)) hT hw h0 h1 t0 t1 (by omega : -200 ≤ pos w r m) (by omega) 7 1 vU vU (by omega) (by omega)
               rw [hst] at e9
               unfold ovr
               rw [if_neg (fun z => by rcases z with z | z; exact c_8 z; exact z c_17), if_neg (by omega)]
               exact e9)
            | (have hst : stp r to = -1 := (by unfold stp; rw [if_neg (by omega)])
               have e9 := lp_overFrom (xs := xs) (m := m) (n := nea w to (pos w r m)) hT hw h0 h1 t0 t1 (by omega : -200 ≤ pos w r m) (by omega) 7 1 vU vU (by omega) (by omega)
               rw [hst] at e9
               unfold ovr
               rw [if_neg (fun z => by rcases z with z | z; exact c_8 z; exact z c_17), if_neg (by omega)]
               exact e9)
        · skip
          refine r_iconst cd_Table_overFrom_63 ?_
          refine r_goto cd_Table_overFrom_64 ?_
          refine r_istore11_7 cd_Table_overFrom_68 rfl ?_
          refine r_iconst cd_Table_overFrom_70 ?_
          refine r_istore11_8 cd_Table_overFrom_71 rfl ?_
          first
            | (have hst : stp r to = 1 := (by unfold stp; rw [if_pos c_60])
               have e9 := lp_overFrom (xs := xs) (m := m) (n := nea w to (pos w r m)) hT hw h0 h1 t0 t1 (by omega : -200 ≤ pos w r m) (by omega) 7 1 vU vU (by omega) (by omega)
               rw [hst] at e9
               unfold ovr
               rw [if_neg (fun z => by rcases z with z | z; exact c_8 z; exact z c_17), if_neg (by omega)]
               exact e9)
            | (have hst : stp r to = -1 := (by unfold stp; rw [if_neg (by omega)])
               have e9 := lp_overFrom (xs := xs) (m := m) (n := nea w to (pos w r m)) hT hw h0 h1 t0 t1 (by omega : -200 ≤ pos w r m) (by omega) 7 1 vU vU (by omega) (by omega)
               rw [hst] at e9
               unfold ovr
               rw [if_neg (fun z => by rcases z with z | z; exact c_8 z; exact z c_17), if_neg (by omega)]
               exact e9)
      · skip
        refine r_iconst cd_Table_overFrom_56 ?_
        exact r_iret cd_Table_overFrom_57 rt_Table_overFrom (by unfold ovr; rw [if_neg (fun z => by rcases z with z | z; exact c_8 z; exact z c_17), if_pos c_53]) (by rfl)
    · skip
      refine r_iconst cd_Table_overFrom_20 ?_
      exact r_iret cd_Table_overFrom_21 rt_Table_overFrom (by unfold ovr; first | (rw [if_pos (Or.inl c_8)]; done) | (rw [if_pos (Or.inr c_17)]; done)) (by rfl)
-- shots
def kp (s : Int) : Int := if s = 0 then 0 else 7
def bh (s br : Int) : Int := zabs (kp (1 - s) - br) + 1
def gl (p d s br : Int) : Prop := 15 ≤ bnc (p + bh s br * d) ∧ bnc (p + bh s br * d) ≤ 25
def glB (p d s br : Int) : Bool := decide (15 ≤ bnc (p + bh s br * d)) && decide (bnc (p + bh s br * d) ≤ 25)
theorem gl_iff {p d s br : Int} : glB p d s br = true ↔ gl p d s br := by simp [glB, gl]
def upw (s : Int) : Int := if s = 0 then 1 else -1
theorem sp_upw {s : Int} (hs : inR s) : Sp xs m_Rods_stepToGoalOf [vI s] h (some (vI (upw s))) h := sp_Rods_stepToGoalOf hs
theorem sp_kp {s : Int} (hs : inR s) : Sp xs m_Rods_keeperOf [vI s] h (some (vI (kp s))) h := sp_Rods_keeperOf hs
def shA (w : List Int) (p d s br : Int) : Nat → Int → Int
  | 0, _ => if glB p d s br = true then 80 else 10 * kp (1 - s)
  | k + 1, i => if (0 ≤ br + i * upw s ∧ br + i * upw s < 8 ∧ sid (br + i * upw s) = 1 - s) ∧ cov w (br + i * upw s) (bnc (p + i * d)) ≠ -1 then 10 * (br + i * upw s) + cov w (br + i * upw s) (bnc (p + i * d)) else shA w p d s br k (i + 1)
def bp0 (w : List Int) : Int := pos w (at_ w 16) (at_ w 17)
def shot (w : List Int) (d : Int) : Int := shA w (bp0 w) d (sid (at_ w 16)) (at_ w 16) 7 1
theorem d_mul {i d : Int} (i0 : 0 ≤ i) (i1 : i ≤ 8) (d0 : -9 ≤ d) (d1 : d ≤ 9) : -72 ≤ i * d ∧ i * d ≤ 72 := by
  have : i = 0 ∨ i = 1 ∨ i = 2 ∨ i = 3 ∨ i = 4 ∨ i = 5 ∨ i = 6 ∨ i = 7 ∨ i = 8 := by omega
  rcases this with rfl | rfl | rfl | rfl | rfl | rfl | rfl | rfl | rfl <;> omega
theorem alive_bd (hw : WF w) (ha : at_ w 16 ≠ -6) : 0 ≤ at_ w 16 ∧ at_ w 16 < 8 ∧ 0 ≤ at_ w 17 ∧ at_ w 17 < men (at_ w 16) := by
  rcases hw.2.2.2.1 with z | z
  · exact absurd z.1 ha
  · exact z
theorem bp0_bd (hw : WF w) (ha : at_ w 16 ≠ -6) : 0 ≤ bp0 w ∧ bp0 w ≤ 40 := by
  obtain ⟨a1, a2, a3, a4⟩ := alive_bd hw ha
  exact pos_bd hw a1 a2 a3 a4
theorem bh_bd {s br : Int} (hs : s = 0 ∨ s = 1) (b0 : 0 ≤ br) (b1 : br < 8) : 1 ≤ bh s br ∧ bh s br ≤ 8 := by
  unfold bh
  rcases hs with rfl | rfl
  · rw [show kp (1 - 0) = 7 by decide]; unfold zabs; split <;> omega
  · rw [show kp (1 - 1) = 0 by decide]; unfold zabs; split <;> omega
theorem sp_reachesGoal {p d : Int} (hT : TabAt h t w) (hw : WF w) (ha : at_ w 16 ≠ -6) (p0 : 0 ≤ p) (p1 : p ≤ 40) (d0 : -9 ≤ d) (d1 : d ≤ 9) : Sp xs m_Table_reachesGoal [vR t, vI p, vI d] h (some (vI (bp (glB p d (sid (at_ w 16)) (at_ w 16) = true)))) h := by
  obtain ⟨a1, a2, a3, a4⟩ := alive_bd hw ha
  have hs := sid_bd a1 a2
  have hb := bh_bd hs a1 a2
  have hm := d_mul (by omega) hb.2 d0 d1
  have hk : kp (1 - sid (at_ w 16)) = 0 ∨ kp (1 - sid (at_ w 16)) = 7 := by unfold kp; split <;> simp
  have hz := bnc_bd (p + bh (sid (at_ w 16)) (at_ w 16) * d)
  refine en_Table_reachesGoal ?_
  refine r_iconst cd_Table_reachesGoal_0 ?_
  refine r_aload_n cd_Table_reachesGoal_1 rfl ?_
  refine r_getfield cd_Table_reachesGoal_2 hT.1 rfl ?_
  refine r_cv1 cd_Table_reachesGoal_5 rfl ck_Table_reachesGoal_Rods_sideOf rfl (Nat.le_of_ble_eq_true rfl) (sp_sid a1 a2) ?_
  refine r_isub cd_Table_reachesGoal_8 ?_
  refine r_cv1 cd_Table_reachesGoal_9 rfl ck_Table_reachesGoal_Rods_keeperOf rfl (Nat.le_of_ble_eq_true rfl) (sp_kp ⟨by omega, by omega⟩) ?_
  refine r_aload_n cd_Table_reachesGoal_12 rfl ?_
  refine r_getfield cd_Table_reachesGoal_13 hT.1 rfl ?_
  refine r_isub cd_Table_reachesGoal_16 ?_
  refine r_cv1 cd_Table_reachesGoal_17 rfl ck_Table_reachesGoal_Math_abs rfl (Nat.le_of_ble_eq_true rfl) (sp_Math_abs (x := kp (1 - sid (at_ w 16)) - at_ w 16) ⟨by omega, by omega⟩) ?_
  refine r_iconst cd_Table_reachesGoal_20 ?_
  refine r_iadd cd_Table_reachesGoal_21 ?_
  refine r_istoren5_3 cd_Table_reachesGoal_22 rfl ?_
  refine r_iload_n cd_Table_reachesGoal_23 rfl ?_
  refine r_iload_n cd_Table_reachesGoal_24 rfl ?_
  refine r_iload_n cd_Table_reachesGoal_25 rfl ?_
  refine r_imul cd_Table_reachesGoal_26 ?_
  refine r_iadd cd_Table_reachesGoal_27 ?_
  refine r_cv1 cd_Table_reachesGoal_28 rfl ck_Table_reachesGoal_Table_bounced rfl (Nat.le_of_ble_eq_true rfl) (sp_bounced (z := p + bh (sid (at_ w 16)) (at_ w 16) * d) (by omega) (by omega)) ?_
  refine r_istore5_4 cd_Table_reachesGoal_31 rfl ?_
  refine r_iload cd_Table_reachesGoal_33 rfl ?_
  refine r_bipush cd_Table_reachesGoal_35 ?_
  refine r_icmp_lt cd_Table_reachesGoal_37 ⟨by omega, by omega⟩ ⟨by decide, by decide⟩ (fun c_37 => ?_) (fun c_37 => ?_)
  · skip
    refine r_iconst cd_Table_reachesGoal_51 ?_
    exact r_zret cd_Table_reachesGoal_52 rt_Table_reachesGoal (by (have q := gl_iff (p := p) (d := d) (s := sid (at_ w 16)) (br := at_ w 16); unfold gl at q; first | (rw [bp_t (q.mpr ⟨c_37, c_44⟩)]; done) | (rw [bp_f (fun z => by have := q.mp z; omega)]; done))) (by rfl)
  · skip
    refine r_iload cd_Table_reachesGoal_40 rfl ?_
    refine r_bipush cd_Table_reachesGoal_42 ?_
    refine r_icmp_gt cd_Table_reachesGoal_44 ⟨by omega, by omega⟩ ⟨by decide, by decide⟩ (fun c_44 => ?_) (fun c_44 => ?_)
    · skip
      refine r_iconst cd_Table_reachesGoal_51 ?_
      exact r_zret cd_Table_reachesGoal_52 rt_Table_reachesGoal (by (have q := gl_iff (p := p) (d := d) (s := sid (at_ w 16)) (br := at_ w 16); unfold gl at q; first | (rw [bp_t (q.mpr ⟨c_37, c_44⟩)]; done) | (rw [bp_f (fun z => by have := q.mp z; omega)]; done))) (by rfl)
    · skip
      refine r_iconst cd_Table_reachesGoal_47 ?_
      refine r_goto cd_Table_reachesGoal_48 ?_
      exact r_zret cd_Table_reachesGoal_52 rt_Table_reachesGoal (by (have q := gl_iff (p := p) (d := d) (s := sid (at_ w 16)) (br := at_ w 16); unfold gl at q; first | (rw [bp_t (q.mpr ⟨c_37, c_44⟩)]; done) | (rw [bp_f (fun z => by have := q.mp z; omega)]; done))) (by rfl)
theorem lp_shotEnd {d : Int} (hT : TabAt h t w) (hw : WF w) (ha : at_ w 16 ≠ -6) (d0 : -9 ≤ d) (d1 : d ≤ 9) : ∀ (k : Nat) (i : Int) (x5 x6 : MV), 1 ≤ i → i + k = 8 → Rn xs m_Table_shotEnd 33 [vR t, vI d, vI (sid (at_ w 16)), vI (bp0 w), vI i, x5, x6] [] h (some (vI (shA w (bp0 w) d (sid (at_ w 16)) (at_ w 16) k i))) h := by
  intro k
  obtain ⟨a1, a2, a3, a4⟩ := alive_bd hw ha
  have hs := sid_bd a1 a2
  have hp := bp0_bd hw ha
  induction k with
  | zero =>
    intro i x5 x6 i0 i1
    refine r_iload cd_Table_shotEnd_33 rfl ?_
    refine r_bipush cd_Table_shotEnd_35 ?_
    refine r_icmp_ge cd_Table_shotEnd_37 ⟨by omega, by omega⟩ ⟨by decide, by decide⟩ (fun c_37 => ?_) (fun c_37 => ?_)
    · skip
      refine r_aload_n cd_Table_shotEnd_103 rfl ?_
      refine r_iload_n cd_Table_shotEnd_104 rfl ?_
      refine r_iload_n cd_Table_shotEnd_105 rfl ?_
      refine r_vv2 cd_Table_shotEnd_106 rfl ck_Table_shotEnd_Table_reachesGoal (Nat.le_of_ble_eq_true rfl) hT.1 rfl (sp_reachesGoal hT hw ha hp.1 hp.2 d0 d1) ?_
      refine r_ifeq_p cd_Table_shotEnd_109 (fun c_109 => ?_) (fun c_109 => ?_)
      · skip
        refine r_bipush cd_Table_shotEnd_117 ?_
        refine r_iconst cd_Table_shotEnd_119 ?_
        refine r_iload_n cd_Table_shotEnd_120 rfl ?_
        refine r_isub cd_Table_shotEnd_121 ?_
        refine r_cv1 cd_Table_shotEnd_122 rfl ck_Table_shotEnd_Rods_keeperOf rfl (Nat.le_of_ble_eq_true rfl) (sp_kp ⟨by omega, by omega⟩) ?_
        refine r_imul cd_Table_shotEnd_125 ?_
        exact r_iret cd_Table_shotEnd_126 rt_Table_shotEnd (by unfold shA; first | (rw [if_pos c_109]; done) | (rw [if_neg c_109]; done)) (by rfl)
      · skip
        refine r_bipush cd_Table_shotEnd_112 ?_
        refine r_goto cd_Table_shotEnd_114 ?_
        exact r_iret cd_Table_shotEnd_126 rt_Table_shotEnd (by unfold shA; first | (rw [if_pos c_109]; done) | (rw [if_neg c_109]; done)) (by rfl)
    · skip
      omega
  | succ k ih =>
    intro i x5 x6 i0 i1
    have hu : upw (sid (at_ w 16)) = 1 ∨ upw (sid (at_ w 16)) = -1 := by unfold upw; split <;> simp
    have hb : at_ w 16 + i * upw (sid (at_ w 16)) = at_ w 16 + i ∨ at_ w 16 + i * upw (sid (at_ w 16)) = at_ w 16 - i := by rcases hu with z | z <;> rw [z] <;> omega
    have hm := d_mul (by omega : 0 ≤ i) (by omega) d0 d1
    have hz := bnc_bd (bp0 w + i * d)
    have hc := fun (q0 : 0 ≤ at_ w 16 + i * upw (sid (at_ w 16))) (q1 : at_ w 16 + i * upw (sid (at_ w 16)) < 8) => cov_bd w (p := bnc (bp0 w + i * d)) q0 q1
    have hmn := fun (q0 : 0 ≤ at_ w 16 + i * upw (sid (at_ w 16))) (q1 : at_ w 16 + i * upw (sid (at_ w 16)) < 8) => men_bd q0 q1
    refine r_iload cd_Table_shotEnd_33 rfl ?_
    refine r_bipush cd_Table_shotEnd_35 ?_
    refine r_icmp_ge cd_Table_shotEnd_37 ⟨by omega, by omega⟩ ⟨by decide, by decide⟩ (fun c_37 => ?_) (fun c_37 => ?_)
    · skip
      omega
    · skip
      refine r_aload_n cd_Table_shotEnd_40 rfl ?_
      refine r_getfield cd_Table_shotEnd_41 hT.1 rfl ?_
      refine r_iload cd_Table_shotEnd_44 rfl ?_
      refine r_iload_n cd_Table_shotEnd_46 rfl ?_
      refine r_cv1 cd_Table_shotEnd_47 rfl ck_Table_shotEnd_Rods_stepToGoalOf rfl (Nat.le_of_ble_eq_true rfl) (sp_upw ⟨by omega, by omega⟩) ?_
      refine r_imul cd_Table_shotEnd_50 ?_
      refine r_iadd cd_Table_shotEnd_51 ?_
      refine r_istore7_5 cd_Table_shotEnd_52 rfl ?_
      refine r_iload cd_Table_shotEnd_54 rfl ?_
      refine r_iconst cd_Table_shotEnd_56 ?_
      refine r_iload_n cd_Table_shotEnd_57 rfl ?_
      refine r_isub cd_Table_shotEnd_58 ?_
      refine r_cv2 cd_Table_shotEnd_59 rfl ck_Table_shotEnd_Rods_isOf rfl (Nat.le_of_ble_eq_true rfl) (sp_Rods_isOf (r := at_ w 16 + i * upw (sid (at_ w 16))) ⟨by omega, by omega⟩ ⟨by omega, by omega⟩) ?_
      refine r_ifeq_p cd_Table_shotEnd_62 (fun c_62 => ?_) (fun c_62 => ?_)
      · skip
        refine r_iinc7_4 cd_Table_shotEnd_97 rfl ?_
        refine r_goto cd_Table_shotEnd_100 ?_
        (have e9 := fun x y => ih (i + 1) x y (by omega) (by omega); unfold shA; rw [if_neg (fun z => by first | exact c_62 z.1 | exact z.2 c_85)]; exact e9 _ _)
      · skip
        refine r_aload_n cd_Table_shotEnd_65 rfl ?_
        refine r_iload cd_Table_shotEnd_66 rfl ?_
        refine r_iload_n cd_Table_shotEnd_68 rfl ?_
        refine r_iload cd_Table_shotEnd_69 rfl ?_
        refine r_iload_n cd_Table_shotEnd_71 rfl ?_
        refine r_imul cd_Table_shotEnd_72 ?_
        refine r_iadd cd_Table_shotEnd_73 ?_
        refine r_cv1 cd_Table_shotEnd_74 rfl ck_Table_shotEnd_Table_bounced rfl (Nat.le_of_ble_eq_true rfl) (sp_bounced (by omega) (by omega)) ?_
        refine r_vv2 cd_Table_shotEnd_77 rfl ck_Table_shotEnd_Table_covererOf (Nat.le_of_ble_eq_true rfl) hT.1 rfl (sp_covererOf (r := at_ w 16 + i * upw (sid (at_ w 16))) hT hw c_62.1 c_62.2.1 (by omega) (by omega)) ?_
        refine r_istore7_6 cd_Table_shotEnd_80 rfl ?_
        refine r_iload cd_Table_shotEnd_82 rfl ?_
        refine r_iconst cd_Table_shotEnd_84 ?_
        refine r_icmp_eq cd_Table_shotEnd_85 ⟨by (have q1 := hc c_62.1 c_62.2.1; have q2 := hmn c_62.1 c_62.2.1; omega), by (have q1 := hc c_62.1 c_62.2.1; have q2 := hmn c_62.1 c_62.2.1; omega)⟩ ⟨by decide, by decide⟩ (fun c_85 => ?_) (fun c_85 => ?_)
        · skip
          refine r_iinc7_4 cd_Table_shotEnd_97 rfl ?_
          refine r_goto cd_Table_shotEnd_100 ?_
          (have e9 := fun x y => ih (i + 1) x y (by omega) (by omega); unfold shA; rw [if_neg (fun z => by first | exact c_62 z.1 | exact z.2 c_85)]; exact e9 _ _)
        · skip
          refine r_bipush cd_Table_shotEnd_88 ?_
          refine r_iload cd_Table_shotEnd_90 rfl ?_
          refine r_imul cd_Table_shotEnd_92 ?_
          refine r_iload cd_Table_shotEnd_93 rfl ?_
          refine r_iadd cd_Table_shotEnd_95 ?_
          exact r_iret cd_Table_shotEnd_96 rt_Table_shotEnd (by unfold shA; rw [if_pos ⟨c_62, c_85⟩]) (by rfl)
theorem sp_shotEnd {d : Int} (hT : TabAt h t w) (hw : WF w) (ha : at_ w 16 ≠ -6) (d0 : -9 ≤ d) (d1 : d ≤ 9) : Sp xs m_Table_shotEnd [vR t, vI d] h (some (vI (shot w d))) h := by
  obtain ⟨a1, a2, a3, a4⟩ := alive_bd hw ha
  refine en_Table_shotEnd ?_
  refine r_aload_n cd_Table_shotEnd_0 rfl ?_
  refine r_vv0 cd_Table_shotEnd_1 rfl ck_Table_shotEnd_Table_isDead (Nat.le_of_ble_eq_true rfl) hT.1 rfl (sp_isDead hT hw) ?_
  refine r_ifeq_p cd_Table_shotEnd_4 (fun c_4 => ?_) (fun c_4 => ?_)
  · skip
    refine r_aload_n cd_Table_shotEnd_9 rfl ?_
    refine r_getfield cd_Table_shotEnd_10 hT.1 rfl ?_
    refine r_cv1 cd_Table_shotEnd_13 rfl ck_Table_shotEnd_Rods_sideOf rfl (Nat.le_of_ble_eq_true rfl) (sp_sid a1 a2) ?_
    refine r_istoren7_2 cd_Table_shotEnd_16 rfl ?_
    refine r_aload_n cd_Table_shotEnd_17 rfl ?_
    refine r_aload_n cd_Table_shotEnd_18 rfl ?_
    refine r_getfield cd_Table_shotEnd_19 hT.1 rfl ?_
    refine r_aload_n cd_Table_shotEnd_22 rfl ?_
    refine r_getfield cd_Table_shotEnd_23 hT.1 rfl ?_
    refine r_vv2 cd_Table_shotEnd_26 rfl ck_Table_shotEnd_Table_placeOf (Nat.le_of_ble_eq_true rfl) hT.1 rfl (sp_placeOf hT hw a1 a2) ?_
    refine r_istoren7_3 cd_Table_shotEnd_29 rfl ?_
    refine r_iconst cd_Table_shotEnd_30 ?_
    refine r_istore7_4 cd_Table_shotEnd_31 rfl ?_
    exact lp_shotEnd hT hw ha d0 d1 7 1 vU vU (by omega) (by omega)
  · skip
    exact absurd c_4 ha
end C33
