-- contracts of Passes: at 10, its counts at 11; the table at 1
section C41
variable {xs : List Int} {h : MH} {w c : List Int}
def isM (who : Int) : Prop := 0 ≤ who / 10 ∧ who / 10 < 8 ∧ who % 10 < men (who / 10)
def rcv (w : List Int) (who way : Int) : Int :=
  if ¬ (0 ≤ who % 10 ∧ 0 ≤ who / 10 ∧ who / 10 < 8 ∧ who % 10 < men (who / 10)) then -1
  else if 2 ≤ way then (if 0 ≤ ovr w (who / 10) (who % 10) (way - 2) ∧ sid (ovr w (who / 10) (who % 10) (way - 2) / 10) = sid (who / 10) then ovr w (who / 10) (who % 10) (way - 2) else -1)
  else if way = 0 then (if 0 ≤ who % 10 - 1 then 10 * (who / 10) + (who % 10 - 1) else -1)
  else if who % 10 + 1 < men (who / 10) then 10 * (who / 10) + (who % 10 + 1) else -1
theorem rcv_bd {who way : Int} (hw : WF w) (w0 : 0 ≤ way) (w1 : way < 10) : -1 ≤ rcv w who way ∧ rcv w who way < 80 := by
  unfold rcv
  split
  · omega
  · next z =>
    have z2 : 0 ≤ who % 10 ∧ 0 ≤ who / 10 ∧ who / 10 < 8 ∧ who % 10 < men (who / 10) := Decidable.not_not.mp z
    have hm := men_bd z2.2.1 z2.2.2.1
    split
    · next y =>
      have := ovr_bd hw z2.2.1 z2.2.2.1 z2.1 z2.2.2.2 (to := way - 2) (by omega) (by omega)
      split <;> omega
    · (repeat' split) <;> omega
theorem sp_ownOnly {r x : Int} (h0 : 0 ≤ r) (h1 : r < 8) (x0 : -1 ≤ x) (x1 : x < 80) : Sp xs m_Passes_ownOnly [vI r, vI x] h (some (vI (if 0 ≤ x ∧ sid (x / 10) = sid r then x else -1))) h := by
  have hs := sid_bd h0 h1
  have e1 : 0 ≤ x → x.tdiv 10 = x / 10 := fun z => Int.tdiv_eq_ediv_of_nonneg z
  have hs2 : 0 ≤ x → sid (x / 10) = 0 ∨ sid (x / 10) = 1 := fun z => sid_bd (by omega) (by omega)
  refine en_Passes_ownOnly ?_
  refine r_iload_n cd_Passes_ownOnly_0 rfl ?_
  refine r_if_lt cd_Passes_ownOnly_1 ⟨by omega, by omega⟩ (fun c_1 => ?_) (fun c_1 => ?_)
  · skip
    refine r_iconst cd_Passes_ownOnly_22 ?_
    exact r_iret cd_Passes_ownOnly_23 rt_Passes_ownOnly (by first | (rw [if_neg (by omega)]; done) | (rw [e1 c_1] at c_15; first | (rw [if_pos ⟨c_1, c_15⟩]; done) | (rw [if_neg (fun z => c_15 z.2)]; done))) (by rfl)
  · skip
    refine r_iload_n cd_Passes_ownOnly_4 rfl ?_
    refine r_bipush cd_Passes_ownOnly_5 ?_
    refine r_idiv cd_Passes_ownOnly_7 ⟨by omega, by omega⟩ ⟨by decide, by decide⟩ (by decide) ?_
    refine r_cv1 cd_Passes_ownOnly_8 rfl ck_Passes_ownOnly_Rods_sideOf rfl (Nat.le_of_ble_eq_true rfl) (by have e9 := sp_sid (xs := xs) (h := h) (r := x / 10) (by omega) (by omega); rw [← e1 c_1] at e9; exact e9) ?_
    refine r_iload_n cd_Passes_ownOnly_11 rfl ?_
    refine r_cv1 cd_Passes_ownOnly_12 rfl ck_Passes_ownOnly_Rods_sideOf rfl (Nat.le_of_ble_eq_true rfl) (sp_sid h0 h1) ?_
    refine r_icmp_ne cd_Passes_ownOnly_15 ⟨by (first | (rw [e1 c_1]; have := hs2 c_1; omega) | omega), by (first | (rw [e1 c_1]; have := hs2 c_1; omega) | omega)⟩ ⟨by (first | (rw [e1 c_1]; have := hs2 c_1; omega) | omega), by (first | (rw [e1 c_1]; have := hs2 c_1; omega) | omega)⟩ (fun c_15 => ?_) (fun c_15 => ?_)
    · skip
      refine r_iconst cd_Passes_ownOnly_22 ?_
      exact r_iret cd_Passes_ownOnly_23 rt_Passes_ownOnly (by first | (rw [if_neg (by omega)]; done) | (rw [e1 c_1] at c_15; first | (rw [if_pos ⟨c_1, c_15⟩]; done) | (rw [if_neg (fun z => c_15 z.2)]; done))) (by rfl)
    · skip
      refine r_iload_n cd_Passes_ownOnly_18 rfl ?_
      refine r_goto cd_Passes_ownOnly_19 ?_
      exact r_iret cd_Passes_ownOnly_23 rt_Passes_ownOnly (by first | (rw [if_neg (by omega)]; done) | (rw [e1 c_1] at c_15; first | (rw [if_pos ⟨c_1, c_15⟩]; done) | (rw [if_neg (fun z => c_15 z.2)]; done))) (by rfl)
theorem sp_receiver {who way : Int} (hT : TabAt h 1 w) (hw : WF w) (h0 : 0 ≤ who) (h1 : who < 80) (w0 : 0 ≤ way) (w1 : way < 10) : Sp xs m_Passes_receiver [vR 1, vI who, vI way] h (some (vI (rcv w who way))) h := by
  have e1 : who.tdiv 10 = who / 10 := Int.tdiv_eq_ediv_of_nonneg h0
  have e2 : who.tmod 10 = who % 10 := Int.tmod_eq_emod_of_nonneg h0
  have key : ∀ (x3 x4 : Int), x3 = who / 10 → x4 = who % 10 → Rn xs m_Passes_receiver 11 [vR 1, vI who, vI way, vI x3, vI x4, vU] [] h (some (vI (rcv w who way))) h := by
    intro x3 x4 h3 h4
    subst h3; subst h4
    by_cases z : 0 ≤ who % 10 ∧ 0 ≤ who / 10 ∧ who / 10 < 8 ∧ who % 10 < men (who / 10)
    · skip
      have z9 := Decidable.not_not.mpr z
      have hm := men_bd z.2.1 z.2.2.1
      have ho := fun (q : 2 ≤ way) => ovr_bd hw z.2.1 z.2.2.1 z.1 z.2.2.2 (to := way - 2) (by omega) (by omega)
      refine r_aload_n cd_Passes_receiver_11 rfl ?_
      refine r_ifnull cd_Passes_receiver_12 ?_
      refine r_iload_n cd_Passes_receiver_15 rfl ?_
      refine r_iload cd_Passes_receiver_16 rfl ?_
      refine r_cv2 cd_Passes_receiver_18 rfl ck_Passes_receiver_Rods_isMan rfl (Nat.le_of_ble_eq_true rfl) (sp_Rods_isMan ⟨by omega, by omega⟩ ⟨by omega, by omega⟩) ?_
      refine r_ifne_p cd_Passes_receiver_21 (fun c_21 => ?_) (fun c_21 => ?_)
      · skip
        refine r_iload_n cd_Passes_receiver_26 rfl ?_
        refine r_iconst cd_Passes_receiver_27 ?_
        refine r_icmp_lt cd_Passes_receiver_28 ⟨by omega, by omega⟩ ⟨by decide, by decide⟩ (fun c_28 => ?_) (fun c_28 => ?_)
        · skip
          refine r_iload_n cd_Passes_receiver_46 rfl ?_
          refine r_if_ne cd_Passes_receiver_47 ⟨by omega, by omega⟩ (fun c_47 => ?_) (fun c_47 => ?_)
          · skip
            refine r_iload cd_Passes_receiver_57 rfl ?_
            refine r_iconst cd_Passes_receiver_59 ?_
            refine r_iadd cd_Passes_receiver_60 ?_
            refine r_istore6_5 cd_Passes_receiver_61 rfl ?_
            refine r_iload_n cd_Passes_receiver_63 rfl ?_
            refine r_iload cd_Passes_receiver_64 rfl ?_
            refine r_cv2 cd_Passes_receiver_66 rfl ck_Passes_receiver_Rods_isMan rfl (Nat.le_of_ble_eq_true rfl) (sp_Rods_isMan ⟨by omega, by omega⟩ ⟨by omega, by omega⟩) ?_
            refine r_ifeq_p cd_Passes_receiver_69 (fun c_69 => ?_) (fun c_69 => ?_)
            · skip
              refine r_iconst cd_Passes_receiver_82 ?_
              exact r_iret cd_Passes_receiver_83 rt_Passes_receiver (by (unfold rcv; rw [if_neg z9, if_neg (by omega)]; (repeat' split) <;> omega)) (by rfl)
            · skip
              refine r_bipush cd_Passes_receiver_72 ?_
              refine r_iload_n cd_Passes_receiver_74 rfl ?_
              refine r_imul cd_Passes_receiver_75 ?_
              refine r_iload cd_Passes_receiver_76 rfl ?_
              refine r_iadd cd_Passes_receiver_78 ?_
              refine r_goto cd_Passes_receiver_79 ?_
              exact r_iret cd_Passes_receiver_83 rt_Passes_receiver (by (unfold rcv; rw [if_neg z9, if_neg (by omega)]; (repeat' split) <;> omega)) (by rfl)
          · skip
            refine r_iload cd_Passes_receiver_50 rfl ?_
            refine r_iconst cd_Passes_receiver_52 ?_
            refine r_isub cd_Passes_receiver_53 ?_
            refine r_goto cd_Passes_receiver_54 ?_
            refine r_istore6_5 cd_Passes_receiver_61 rfl ?_
            refine r_iload_n cd_Passes_receiver_63 rfl ?_
            refine r_iload cd_Passes_receiver_64 rfl ?_
            refine r_cv2 cd_Passes_receiver_66 rfl ck_Passes_receiver_Rods_isMan rfl (Nat.le_of_ble_eq_true rfl) (sp_Rods_isMan ⟨by omega, by omega⟩ ⟨by omega, by omega⟩) ?_
            refine r_ifeq_p cd_Passes_receiver_69 (fun c_69 => ?_) (fun c_69 => ?_)
            · skip
              refine r_iconst cd_Passes_receiver_82 ?_
              exact r_iret cd_Passes_receiver_83 rt_Passes_receiver (by (unfold rcv; rw [if_neg z9, if_neg (by omega)]; (repeat' split) <;> omega)) (by rfl)
            · skip
              refine r_bipush cd_Passes_receiver_72 ?_
              refine r_iload_n cd_Passes_receiver_74 rfl ?_
              refine r_imul cd_Passes_receiver_75 ?_
              refine r_iload cd_Passes_receiver_76 rfl ?_
              refine r_iadd cd_Passes_receiver_78 ?_
              refine r_goto cd_Passes_receiver_79 ?_
              exact r_iret cd_Passes_receiver_83 rt_Passes_receiver (by (unfold rcv; rw [if_neg z9, if_neg (by omega)]; (repeat' split) <;> omega)) (by rfl)
        · skip
          refine r_iload_n cd_Passes_receiver_31 rfl ?_
          refine r_aload_n cd_Passes_receiver_32 rfl ?_
          refine r_iload_n cd_Passes_receiver_33 rfl ?_
          refine r_iload cd_Passes_receiver_34 rfl ?_
          refine r_iload_n cd_Passes_receiver_36 rfl ?_
          refine r_iconst cd_Passes_receiver_37 ?_
          refine r_isub cd_Passes_receiver_38 ?_
          refine r_vv3 cd_Passes_receiver_39 rfl ck_Passes_receiver_Table_overFrom (Nat.le_of_ble_eq_true rfl) hT.1 rfl (sp_overFrom hT hw z.2.1 z.2.2.1 z.1 z.2.2.2 (by omega) (by omega)) ?_
          refine r_cv2 cd_Passes_receiver_42 rfl ck_Passes_receiver_Passes_ownOnly rfl (Nat.le_of_ble_eq_true rfl) (sp_ownOnly z.2.1 z.2.2.1 (by have := ho c_28; omega) (by have := ho c_28; omega)) ?_
          exact r_iret cd_Passes_receiver_45 rt_Passes_receiver (by (unfold rcv; rw [if_neg z9, if_pos c_28])) (by rfl)
      · skip
        exact absurd z c_21
    · skip
      refine r_aload_n cd_Passes_receiver_11 rfl ?_
      refine r_ifnull cd_Passes_receiver_12 ?_
      refine r_iload_n cd_Passes_receiver_15 rfl ?_
      refine r_iload cd_Passes_receiver_16 rfl ?_
      refine r_cv2 cd_Passes_receiver_18 rfl ck_Passes_receiver_Rods_isMan rfl (Nat.le_of_ble_eq_true rfl) (sp_Rods_isMan ⟨by omega, by omega⟩ ⟨by omega, by omega⟩) ?_
      refine r_ifne_p cd_Passes_receiver_21 (fun c_21 => ?_) (fun c_21 => ?_)
      · skip
        exact absurd c_21 z
      · skip
        refine r_iconst cd_Passes_receiver_24 ?_
        exact r_iret cd_Passes_receiver_25 rt_Passes_receiver (by (unfold rcv; rw [if_pos z])) (by rfl)
  refine en_Passes_receiver ?_
  refine r_iload_n cd_Passes_receiver_0 rfl ?_
  refine r_bipush cd_Passes_receiver_1 ?_
  refine r_idiv cd_Passes_receiver_3 ⟨by omega, by omega⟩ ⟨by decide, by decide⟩ (by decide) ?_
  refine r_istoren6_3 cd_Passes_receiver_4 rfl ?_
  refine r_iload_n cd_Passes_receiver_5 rfl ?_
  refine r_bipush cd_Passes_receiver_6 ?_
  refine r_irem cd_Passes_receiver_8 ⟨by omega, by omega⟩ ⟨by decide, by decide⟩ (by decide) ?_
  refine r_istore6_4 cd_Passes_receiver_9 rfl ?_
  exact key _ _ e1 e2
def frm (c : List Int) (x : Int) : Int := if 0 ≤ x ∧ x < 80 then at_ c x else -6
def CB (c : List Int) : Prop := c.length = 80 ∧ ∀ j : Int, 0 ≤ j → j < 80 → -6 ≤ at_ c j ∧ at_ c j ≤ 20
theorem frm_bd (hc : CB c) (x : Int) : -6 ≤ frm c x ∧ frm c x ≤ 20 := by
  unfold frm
  split
  · next z => exact hc.2 x z.1 z.2
  · omega
def PassAt (h : MH) (c : List Int) : Prop := h[10]? = some (.inl (4, [vR 11])) ∧ h[11]? = some (.inr (0, c))
theorem sp_from {x : Int} (hQ : PassAt h c) (hc : CB c) (hx : inR x) : Sp xs m_Passes_from [vR 10, vI x] h (some (vI (frm c x))) h := by
  obtain ⟨x0, x1⟩ := hx
  refine en_Passes_from ?_
  refine r_iload_n cd_Passes_from_0 rfl ?_
  refine r_if_lt cd_Passes_from_1 ⟨by omega, by omega⟩ (fun c_1 => ?_) (fun c_1 => ?_)
  · skip
    refine r_bipush cd_Passes_from_22 ?_
    exact r_iret cd_Passes_from_24 rt_Passes_from (by (unfold frm; first | (rw [if_pos (by omega)]; done) | (rw [if_neg (by omega)]; done))) (by rfl)
  · skip
    refine r_iload_n cd_Passes_from_4 rfl ?_
    refine r_aload_n cd_Passes_from_5 rfl ?_
    refine r_getfield cd_Passes_from_6 hQ.1 rfl ?_
    refine r_arraylength (N := 80) cd_Passes_from_9 hQ.2 (by rw [hc.1]; rfl) ?_
    refine r_icmp_ge cd_Passes_from_10 ⟨by omega, by omega⟩ ⟨by omega, by omega⟩ (fun c_10 => ?_) (fun c_10 => ?_)
    · skip
      refine r_bipush cd_Passes_from_22 ?_
      exact r_iret cd_Passes_from_24 rt_Passes_from (by (unfold frm; first | (rw [if_pos (by omega)]; done) | (rw [if_neg (by omega)]; done))) (by rfl)
    · skip
      refine r_aload_n cd_Passes_from_13 rfl ?_
      refine r_getfield cd_Passes_from_14 hQ.1 rfl ?_
      refine r_iload_n cd_Passes_from_17 rfl ?_
      refine r_iaload (N := 80) cd_Passes_from_18 hQ.2 (by rw [hc.1]; rfl) (by omega) (by omega) (by omega) ?_
      refine r_goto cd_Passes_from_19 ?_
      exact r_iret cd_Passes_from_24 rt_Passes_from (by (unfold frm; first | (rw [if_pos (by omega)]; done) | (rw [if_neg (by omega)]; done))) (by rfl)
def ldB (w c : List Int) (who rest : Int) : Nat → Int → Bool
  | 0, _ => false
  | k + 1, way => decide (frm c (rcv w who way) = rest) || ldB w c who rest k (way + 1)
theorem lp_leads {who rest : Int} (hT : TabAt h 1 w) (hw : WF w) (hQ : PassAt h c) (hc : CB c) (h0 : 0 ≤ who) (h1 : who < 80) (r0 : -10 ≤ rest) (r1 : rest ≤ 30) : ∀ (k : Nat) (way : Int), 0 ≤ way → way + k = 10 → Rn xs m_Passes_leads 3 [vR 10, vR 1, vI who, vI rest, vI way] [] h (some (vI (bp (ldB w c who rest k way = true)))) h := by
  intro k
  induction k with
  | zero =>
    intro way w0 w1
    refine r_iload cd_Passes_leads_3 rfl ?_
    refine r_bipush cd_Passes_leads_5 ?_
    refine r_icmp_ge cd_Passes_leads_7 ⟨by omega, by omega⟩ ⟨by decide, by decide⟩ (fun c_7 => ?_) (fun c_7 => ?_)
    · skip
      refine r_iconst cd_Passes_leads_33 ?_
      exact r_zret cd_Passes_leads_34 rt_Passes_leads (by (rw [bp_f (by unfold ldB; decide)])) (by rfl)
    · skip
      omega
  | succ k ih =>
    intro way w0 w1
    have hr := rcv_bd hw (who := who) w0 (by omega)
    have hf := frm_bd hc (rcv w who way)
    refine r_iload cd_Passes_leads_3 rfl ?_
    refine r_bipush cd_Passes_leads_5 ?_
    refine r_icmp_ge cd_Passes_leads_7 ⟨by omega, by omega⟩ ⟨by decide, by decide⟩ (fun c_7 => ?_) (fun c_7 => ?_)
    · skip
      omega
    · skip
      refine r_aload_n cd_Passes_leads_10 rfl ?_
      refine r_aload_n cd_Passes_leads_11 rfl ?_
      refine r_iload_n cd_Passes_leads_12 rfl ?_
      refine r_iload cd_Passes_leads_13 rfl ?_
      refine r_cv3 cd_Passes_leads_15 rfl ck_Passes_leads_Passes_receiver rfl (Nat.le_of_ble_eq_true rfl) (sp_receiver hT hw h0 h1 w0 (by omega)) ?_
      refine r_vv1 cd_Passes_leads_18 rfl ck_Passes_leads_Passes_from (Nat.le_of_ble_eq_true rfl) hQ.1 rfl (sp_from hQ hc ⟨by omega, by omega⟩) ?_
      refine r_iload_n cd_Passes_leads_21 rfl ?_
      refine r_icmp_ne cd_Passes_leads_22 ⟨by omega, by omega⟩ ⟨by omega, by omega⟩ (fun c_22 => ?_) (fun c_22 => ?_)
      · skip
        refine r_iinc5_4 cd_Passes_leads_27 rfl ?_
        refine r_goto cd_Passes_leads_30 ?_
        (have e9 := ih (way + 1) (by omega) (by omega); rw [show ldB w c who rest (k + 1) way = ldB w c who rest k (way + 1) by (conv => lhs; unfold ldB); rw [decide_eq_false c_22, Bool.false_or]]; exact e9)
      · skip
        refine r_iconst cd_Passes_leads_25 ?_
        exact r_zret cd_Passes_leads_26 rt_Passes_leads (by (rw [bp_t (by unfold ldB; rw [decide_eq_true c_22, Bool.true_or])])) (by rfl)
theorem sp_leads {who rest : Int} (hT : TabAt h 1 w) (hw : WF w) (hQ : PassAt h c) (hc : CB c) (h0 : 0 ≤ who) (h1 : who < 80) (r0 : -10 ≤ rest) (r1 : rest ≤ 30) : Sp xs m_Passes_leads [vR 10, vR 1, vI who, vI rest] h (some (vI (bp (ldB w c who rest 10 0 = true)))) h := by
  refine en_Passes_leads ?_
  refine r_iconst cd_Passes_leads_0 ?_
  refine r_istore5_4 cd_Passes_leads_1 rfl ?_
  exact lp_leads hT hw hQ hc h0 h1 r0 r1 10 0 (by omega) (by omega)
def ffA (w c : List Int) (who rest : Int) : Nat → Int → Int → Int
  | 0, _, l => l
  | k + 1, way, l => ffA w c who rest k (way + 1) (if frm c (rcv w who way) = rest ∧ (l = -6 ∨ rcv w who way < l) then rcv w who way else l)
theorem lp_firstFrom {who rest : Int} (hT : TabAt h 1 w) (hw : WF w) (hQ : PassAt h c) (hc : CB c) (h0 : 0 ≤ who) (h1 : who < 80) (r0 : 0 ≤ rest) (r1 : rest ≤ 30) : ∀ (k : Nat) (way l : Int) (x6 : MV), 0 ≤ way → way + k = 10 → -6 ≤ l → l < 80 → Rn xs m_Passes_firstFrom 22 [vR 10, vR 1, vI who, vI rest, vI l, vI way, x6] [] h (some (vI (ffA w c who rest k way l))) h := by
  intro k
  induction k with
  | zero =>
    intro way l x6 w0 w1 l0 l1
    refine r_iload cd_Passes_firstFrom_22 rfl ?_
    refine r_bipush cd_Passes_firstFrom_24 ?_
    refine r_icmp_ge cd_Passes_firstFrom_26 ⟨by omega, by omega⟩ ⟨by decide, by decide⟩ (fun c_26 => ?_) (fun c_26 => ?_)
    · skip
      refine r_iload cd_Passes_firstFrom_72 rfl ?_
      exact r_iret cd_Passes_firstFrom_74 rt_Passes_firstFrom (by first | rfl | omega | (split <;> first | rfl | omega)) (by rfl)
    · skip
      omega
  | succ k ih =>
    intro way l x6 w0 w1 l0 l1
    have hr := rcv_bd hw (who := who) w0 (by omega)
    have hf := frm_bd hc (rcv w who way)
    refine r_iload cd_Passes_firstFrom_22 rfl ?_
    refine r_bipush cd_Passes_firstFrom_24 ?_
    refine r_icmp_ge cd_Passes_firstFrom_26 ⟨by omega, by omega⟩ ⟨by decide, by decide⟩ (fun c_26 => ?_) (fun c_26 => ?_)
    · skip
      omega
    · skip
      refine r_aload_n cd_Passes_firstFrom_29 rfl ?_
      refine r_iload_n cd_Passes_firstFrom_30 rfl ?_
      refine r_iload cd_Passes_firstFrom_31 rfl ?_
      refine r_cv3 cd_Passes_firstFrom_33 rfl ck_Passes_firstFrom_Passes_receiver rfl (Nat.le_of_ble_eq_true rfl) (sp_receiver hT hw h0 h1 w0 (by omega)) ?_
      refine r_istore7_6 cd_Passes_firstFrom_36 rfl ?_
      refine r_aload_n cd_Passes_firstFrom_38 rfl ?_
      refine r_iload cd_Passes_firstFrom_39 rfl ?_
      refine r_vv1 cd_Passes_firstFrom_41 rfl ck_Passes_firstFrom_Passes_from (Nat.le_of_ble_eq_true rfl) hQ.1 rfl (sp_from hQ hc ⟨by omega, by omega⟩) ?_
      refine r_iload_n cd_Passes_firstFrom_44 rfl ?_
      refine r_icmp_ne cd_Passes_firstFrom_45 ⟨by omega, by omega⟩ ⟨by omega, by omega⟩ (fun c_45 => ?_) (fun c_45 => ?_)
      · skip
        refine r_iinc7_5 cd_Passes_firstFrom_66 rfl ?_
        refine r_goto cd_Passes_firstFrom_69 ?_
        (have e9 := fun y => ih (way + 1) (if frm c (rcv w who way) = rest ∧ (l = -6 ∨ rcv w who way < l) then rcv w who way else l) y (by omega) (by omega) (by split <;> omega) (by split <;> omega); unfold ffA; first | (rw [if_pos ⟨c_45, by omega⟩] at e9 ⊢; exact e9 _) | (rw [if_neg (fun z => by omega)] at e9 ⊢; exact e9 _))
      · skip
        refine r_iload cd_Passes_firstFrom_48 rfl ?_
        refine r_bipush cd_Passes_firstFrom_50 ?_
        refine r_icmp_eq cd_Passes_firstFrom_52 ⟨by omega, by omega⟩ ⟨by decide, by decide⟩ (fun c_52 => ?_) (fun c_52 => ?_)
        · skip
          refine r_iload cd_Passes_firstFrom_62 rfl ?_
          refine r_istore7_4 cd_Passes_firstFrom_64 rfl ?_
          refine r_iinc7_5 cd_Passes_firstFrom_66 rfl ?_
          refine r_goto cd_Passes_firstFrom_69 ?_
          (have e9 := fun y => ih (way + 1) (if frm c (rcv w who way) = rest ∧ (l = -6 ∨ rcv w who way < l) then rcv w who way else l) y (by omega) (by omega) (by split <;> omega) (by split <;> omega); unfold ffA; first | (rw [if_pos ⟨c_45, by omega⟩] at e9 ⊢; exact e9 _) | (rw [if_neg (fun z => by omega)] at e9 ⊢; exact e9 _))
        · skip
          refine r_iload cd_Passes_firstFrom_55 rfl ?_
          refine r_iload cd_Passes_firstFrom_57 rfl ?_
          refine r_icmp_ge cd_Passes_firstFrom_59 ⟨by omega, by omega⟩ ⟨by omega, by omega⟩ (fun c_59 => ?_) (fun c_59 => ?_)
          · skip
            refine r_iinc7_5 cd_Passes_firstFrom_66 rfl ?_
            refine r_goto cd_Passes_firstFrom_69 ?_
            (have e9 := fun y => ih (way + 1) (if frm c (rcv w who way) = rest ∧ (l = -6 ∨ rcv w who way < l) then rcv w who way else l) y (by omega) (by omega) (by split <;> omega) (by split <;> omega); unfold ffA; first | (rw [if_pos ⟨c_45, by omega⟩] at e9 ⊢; exact e9 _) | (rw [if_neg (fun z => by omega)] at e9 ⊢; exact e9 _))
          · skip
            refine r_iload cd_Passes_firstFrom_62 rfl ?_
            refine r_istore7_4 cd_Passes_firstFrom_64 rfl ?_
            refine r_iinc7_5 cd_Passes_firstFrom_66 rfl ?_
            refine r_goto cd_Passes_firstFrom_69 ?_
            (have e9 := fun y => ih (way + 1) (if frm c (rcv w who way) = rest ∧ (l = -6 ∨ rcv w who way < l) then rcv w who way else l) y (by omega) (by omega) (by split <;> omega) (by split <;> omega); unfold ffA; first | (rw [if_pos ⟨c_45, by omega⟩] at e9 ⊢; exact e9 _) | (rw [if_neg (fun z => by omega)] at e9 ⊢; exact e9 _))
theorem sp_firstFrom {who : Int} (hT : TabAt h 1 w) (hw : WF w) (hQ : PassAt h c) (hc : CB c) (h0 : 0 ≤ who) (h1 : who < 80) : Sp xs m_Passes_firstFrom [vR 10, vR 1, vI who] h (some (vI (if frm c who - 1 < 0 then -6 else ffA w c who (frm c who - 1) 10 0 (-6)))) h := by
  have hf := frm_bd hc who
  refine en_Passes_firstFrom ?_
  refine r_aload_n cd_Passes_firstFrom_0 rfl ?_
  refine r_iload_n cd_Passes_firstFrom_1 rfl ?_
  refine r_vv1 cd_Passes_firstFrom_2 rfl ck_Passes_firstFrom_Passes_from (Nat.le_of_ble_eq_true rfl) hQ.1 rfl (sp_from hQ hc ⟨by omega, by omega⟩) ?_
  refine r_iconst cd_Passes_firstFrom_5 ?_
  refine r_isub cd_Passes_firstFrom_6 ?_
  refine r_istoren7_3 cd_Passes_firstFrom_7 rfl ?_
  refine r_iload_n cd_Passes_firstFrom_8 rfl ?_
  refine r_if_ge cd_Passes_firstFrom_9 ⟨by omega, by omega⟩ (fun c_9 => ?_) (fun c_9 => ?_)
  · skip
    refine r_bipush cd_Passes_firstFrom_15 ?_
    refine r_istore7_4 cd_Passes_firstFrom_17 rfl ?_
    refine r_iconst cd_Passes_firstFrom_19 ?_
    refine r_istore7_5 cd_Passes_firstFrom_20 rfl ?_
    (rw [if_neg (by omega)]; exact lp_firstFrom hT hw hQ hc h0 h1 (by omega) (by omega) 10 0 (-6) vU (by omega) (by omega) (by omega) (by omega))
  · skip
    refine r_bipush cd_Passes_firstFrom_12 ?_
    exact r_iret cd_Passes_firstFrom_14 rt_Passes_firstFrom (by (rw [if_pos c_9])) (by rfl)
-- counting
def inA (w : List Int) (rd : Int) : Nat → Int → List Int → List Int
  | 0, _, c => c
  | k + 1, who, c => inA w rd k (who + 1) (if at_ c who = -6 ∧ ldB w c who (rd - 1) 10 0 = true then c.set who.toNat rd else c)
def ouA (w : List Int) : Nat → Int → List Int → List Int
  | 0, _, c => c
  | k + 1, rd, c => ouA w k (rd + 1) (inA w rd 80 0 c)
def pini (tg : Int) : List Int := (List.range 80).map (fun j : Nat => if (j : Int) = tg then 0 else -6)
def cnt (w : List Int) (tg : Int) : List Int := ouA w 10 1 (pini tg)
theorem pini_at {tg j : Int} (h0 : 0 ≤ j) (h1 : j < 80) : at_ (pini tg) j = if j = tg then 0 else -6 := by
  unfold at_ pini
  rw [List.getD_eq_getElem?_getD, List.getElem?_map, List.getElem?_range (by omega)]
  show (if ((j.toNat : Nat) : Int) = tg then (0 : Int) else -6) = _
  rw [show ((j.toNat : Nat) : Int) = j by omega]
theorem pini_len {tg : Int} : (pini tg).length = 80 := by unfold pini; rw [List.length_map, List.length_range]
theorem pini_CB {tg : Int} : CB (pini tg) := ⟨pini_len, fun j h0 h1 => by rw [pini_at h0 h1]; split <;> omega⟩
theorem CB_set {who rd : Int} (hc : CB c) (h0 : 0 ≤ who) (h1 : who < 80) (r0 : -6 ≤ rd) (r1 : rd ≤ 20) : CB (c.set who.toNat rd) := ⟨by rw [List.length_set]; exact hc.1, fun j j0 j1 => by
  rw [az_set h0 (by rw [hc.1]; exact h1) j0]
  have := hc.2 j j0 j1
  split <;> omega⟩
theorem inA_CB {rd : Int} (r0 : -6 ≤ rd) (r1 : rd ≤ 20) : ∀ (k : Nat) (who : Int) (c : List Int), 0 ≤ who → who + k ≤ 80 → CB c → CB (inA w rd k who c)
  | 0, _, _, _, _, hc => hc
  | k + 1, who, c, h0, h1, hc => by
    unfold inA
    refine inA_CB r0 r1 k (who + 1) _ (by omega) (by omega) ?_
    split
    · exact CB_set hc h0 (by omega) r0 r1
    · exact hc
theorem ouA_CB : ∀ (k : Nat) (rd : Int) (c : List Int), 0 ≤ rd → rd + k ≤ 20 → CB c → CB (ouA w k rd c)
  | 0, _, _, _, _, hc => hc
  | k + 1, rd, c, h0, h1, hc => by
    unfold ouA
    exact ouA_CB k (rd + 1) _ (by omega) (by omega) (inA_CB (by omega) (by omega) 80 0 c (by omega) (by omega) hc)
theorem cnt_CB {tg : Int} : CB (cnt w tg) := ouA_CB 10 1 _ (by omega) (by omega) pini_CB
theorem pass_set {c c' : List Int} (hQ : PassAt h c) : PassAt (h.set 11 (.inr (0, c'))) c' := ⟨gs_ne (by omega) hQ.1, gs_eq hQ.2⟩
theorem lp_cnt0 {tg : Int} (t0 : 0 ≤ tg) (t1 : tg < 80) {c9 : List Int} : ∀ (k : Nat) (i : Int) (c : List Int) (h : MH), 0 ≤ i → i + k = 80 → PassAt h c → CB c → (∀ j : Int, 0 ≤ j → j < i → at_ c j = at_ (pini tg) j) → (∀ (x : MV), Rn xs m_Passes_countTo 34 [vR 10, vR 1, vI tg, x, vU] [] (h.set 11 (.inr (0, pini tg))) none (h.set 11 (.inr (0, c9)))) → Rn xs m_Passes_countTo 2 [vR 10, vR 1, vI tg, vI i, vU] [] h none (h.set 11 (.inr (0, c9))) := by
  intro k
  induction k with
  | zero =>
    intro i c h i0 i1 hQ hc e kk
    have : c = pini tg := ext_at hc.1 pini_len (fun j j0 j1 => e j j0 (by omega))
    subst this
    refine r_iload_n cd_Passes_countTo_2 rfl ?_
    refine r_aload_n cd_Passes_countTo_3 rfl ?_
    refine r_getfield cd_Passes_countTo_4 hQ.1 rfl ?_
    refine r_arraylength (N := 80) cd_Passes_countTo_7 hQ.2 (by rw [hc.1]; rfl) ?_
    refine r_icmp_ge cd_Passes_countTo_8 ⟨by omega, by omega⟩ ⟨by omega, by omega⟩ (fun c_8 => ?_) (fun c_8 => ?_)
    · skip
      (have e9 := kk (vI i); rw [set_same hQ.2] at e9; exact e9)
    · skip
      omega
  | succ k ih =>
    intro i c h i0 i1 hQ hc e kk
    have step : Rn xs m_Passes_countTo 2 [vR 10, vR 1, vI tg, vI (i + 1), vU] [] (h.set 11 (.inr (0, c.set i.toNat (if i = tg then 0 else -6)))) none (h.set 11 (.inr (0, c9))) := by
      have e9 := ih (i + 1) _ _ (by omega) (by omega) (pass_set (c' := c.set i.toNat (if i = tg then 0 else -6)) hQ) (CB_set hc i0 (by omega) (by split <;> omega) (by split <;> omega)) (fun j j0 j1 => by
        rw [az_set i0 (by rw [hc.1]; omega) j0]
        by_cases z : i = j
        · rw [if_pos z, pini_at j0 (by omega), z]
        · rw [if_neg z]; exact e j j0 (by omega)) (fun x => by rw [List.set_set, List.set_set]; exact kk x)
      rw [List.set_set] at e9
      exact e9
    refine r_iload_n cd_Passes_countTo_2 rfl ?_
    refine r_aload_n cd_Passes_countTo_3 rfl ?_
    refine r_getfield cd_Passes_countTo_4 hQ.1 rfl ?_
    refine r_arraylength (N := 80) cd_Passes_countTo_7 hQ.2 (by rw [hc.1]; rfl) ?_
    refine r_icmp_ge cd_Passes_countTo_8 ⟨by omega, by omega⟩ ⟨by omega, by omega⟩ (fun c_8 => ?_) (fun c_8 => ?_)
    · skip
      omega
    · skip
      refine r_aload_n cd_Passes_countTo_11 rfl ?_
      refine r_getfield cd_Passes_countTo_12 hQ.1 rfl ?_
      refine r_iload_n cd_Passes_countTo_15 rfl ?_
      refine r_iload_n cd_Passes_countTo_16 rfl ?_
      refine r_iload_n cd_Passes_countTo_17 rfl ?_
      refine r_icmp_ne cd_Passes_countTo_18 ⟨by omega, by omega⟩ ⟨by omega, by omega⟩ (fun c_18 => ?_) (fun c_18 => ?_)
      · skip
        refine r_bipush cd_Passes_countTo_25 ?_
        refine r_iastore (N := 80) cd_Passes_countTo_27 hQ.2 (by rw [hc.1]; rfl) (by omega) (by omega) (by omega) ?_
        refine r_iinc5_3 cd_Passes_countTo_28 rfl ?_
        refine r_goto cd_Passes_countTo_31 ?_
        first | (rw [if_pos c_18] at step; exact step) | (rw [if_neg c_18] at step; exact step)
      · skip
        refine r_iconst cd_Passes_countTo_21 ?_
        refine r_goto cd_Passes_countTo_22 ?_
        refine r_iastore (N := 80) cd_Passes_countTo_27 hQ.2 (by rw [hc.1]; rfl) (by omega) (by omega) (by omega) ?_
        refine r_iinc5_3 cd_Passes_countTo_28 rfl ?_
        refine r_goto cd_Passes_countTo_31 ?_
        first | (rw [if_pos c_18] at step; exact step) | (rw [if_neg c_18] at step; exact step)
theorem lp_in {tg rd : Int} {H' : MH} (hw : WF w) (r0 : 1 ≤ rd) (r1 : rd ≤ 20) : ∀ (k : Nat) (who : Int) (c : List Int) (h : MH), 0 ≤ who → who + k = 80 → TabAt h 1 w → PassAt h c → CB c → (∀ (x : MV), Rn xs m_Passes_countTo 94 [vR 10, vR 1, vI tg, vI rd, x] [] (h.set 11 (.inr (0, inA w rd k who c))) none H') → Rn xs m_Passes_countTo 45 [vR 10, vR 1, vI tg, vI rd, vI who] [] h none H' := by
  intro k
  induction k with
  | zero =>
    intro who c h h0 h1 hT hQ hc kk
    have e9 := kk (vI who)
    unfold inA at e9
    rw [set_same hQ.2] at e9
    refine r_iload cd_Passes_countTo_45 rfl ?_
    refine r_aload_n cd_Passes_countTo_47 rfl ?_
    refine r_getfield cd_Passes_countTo_48 hQ.1 rfl ?_
    refine r_arraylength (N := 80) cd_Passes_countTo_51 hQ.2 (by rw [hc.1]; rfl) ?_
    refine r_icmp_ge cd_Passes_countTo_52 ⟨by omega, by omega⟩ ⟨by omega, by omega⟩ (fun c_52 => ?_) (fun c_52 => ?_)
    · skip
      exact e9
    · skip
      omega
  | succ k ih =>
    intro who c h h0 h1 hT hQ hc kk
    have hb := hc.2 who h0 (by omega)
    by_cases z : at_ c who = -6 ∧ ldB w c who (rd - 1) 10 0 = true
    · skip
      have e9 := ih (who + 1) (c.set who.toNat rd) (h.set 11 (.inr (0, c.set who.toNat rd))) (by omega) (by omega) (tab_sne hT (by omega) (by omega) (by omega)) (pass_set hQ) (CB_set hc h0 (by omega) (by omega) (by omega)) (fun x => by
        have e8 := kk x
        unfold inA at e8
        rw [if_pos z] at e8
        rw [List.set_set]
        exact e8)
      refine r_iload cd_Passes_countTo_45 rfl ?_
      refine r_aload_n cd_Passes_countTo_47 rfl ?_
      refine r_getfield cd_Passes_countTo_48 hQ.1 rfl ?_
      refine r_arraylength (N := 80) cd_Passes_countTo_51 hQ.2 (by rw [hc.1]; rfl) ?_
      refine r_icmp_ge cd_Passes_countTo_52 ⟨by omega, by omega⟩ ⟨by omega, by omega⟩ (fun c_52 => ?_) (fun c_52 => ?_)
      · skip
        omega
      · skip
        refine r_aload_n cd_Passes_countTo_55 rfl ?_
        refine r_getfield cd_Passes_countTo_56 hQ.1 rfl ?_
        refine r_iload cd_Passes_countTo_59 rfl ?_
        refine r_iaload (N := 80) cd_Passes_countTo_61 hQ.2 (by rw [hc.1]; rfl) (by omega) (by omega) (by omega) ?_
        refine r_bipush cd_Passes_countTo_62 ?_
        refine r_icmp_ne cd_Passes_countTo_64 ⟨by omega, by omega⟩ ⟨by decide, by decide⟩ (fun c_64 => ?_) (fun c_64 => ?_)
        · skip
          refine r_iinc5_4 cd_Passes_countTo_88 rfl ?_
          refine r_goto cd_Passes_countTo_91 ?_
          first | exact absurd z.1 c_64 | exact absurd z.2 c_77 | exact e9
        · skip
          refine r_aload_n cd_Passes_countTo_67 rfl ?_
          refine r_aload_n cd_Passes_countTo_68 rfl ?_
          refine r_iload cd_Passes_countTo_69 rfl ?_
          refine r_iload_n cd_Passes_countTo_71 rfl ?_
          refine r_iconst cd_Passes_countTo_72 ?_
          refine r_isub cd_Passes_countTo_73 ?_
          refine r_vv3 cd_Passes_countTo_74 rfl ck_Passes_countTo_Passes_leads (Nat.le_of_ble_eq_true rfl) hQ.1 rfl (sp_leads hT hw hQ hc h0 (by omega) (by omega) (by omega)) ?_
          refine r_ifeq_p cd_Passes_countTo_77 (fun c_77 => ?_) (fun c_77 => ?_)
          · skip
            refine r_iinc5_4 cd_Passes_countTo_88 rfl ?_
            refine r_goto cd_Passes_countTo_91 ?_
            first | exact absurd z.1 c_64 | exact absurd z.2 c_77 | exact e9
          · skip
            refine r_aload_n cd_Passes_countTo_80 rfl ?_
            refine r_getfield cd_Passes_countTo_81 hQ.1 rfl ?_
            refine r_iload cd_Passes_countTo_84 rfl ?_
            refine r_iload_n cd_Passes_countTo_86 rfl ?_
            refine r_iastore (N := 80) cd_Passes_countTo_87 hQ.2 (by rw [hc.1]; rfl) (by omega) (by omega) (by omega) ?_
            refine r_iinc5_4 cd_Passes_countTo_88 rfl ?_
            refine r_goto cd_Passes_countTo_91 ?_
            first | exact absurd z.1 c_64 | exact absurd z.2 c_77 | exact e9
    · skip
      have e9 := ih (who + 1) c h (by omega) (by omega) hT hQ hc (fun x => by
        have e8 := kk x
        unfold inA at e8
        rw [if_neg z] at e8
        exact e8)
      refine r_iload cd_Passes_countTo_45 rfl ?_
      refine r_aload_n cd_Passes_countTo_47 rfl ?_
      refine r_getfield cd_Passes_countTo_48 hQ.1 rfl ?_
      refine r_arraylength (N := 80) cd_Passes_countTo_51 hQ.2 (by rw [hc.1]; rfl) ?_
      refine r_icmp_ge cd_Passes_countTo_52 ⟨by omega, by omega⟩ ⟨by omega, by omega⟩ (fun c_52 => ?_) (fun c_52 => ?_)
      · skip
        omega
      · skip
        refine r_aload_n cd_Passes_countTo_55 rfl ?_
        refine r_getfield cd_Passes_countTo_56 hQ.1 rfl ?_
        refine r_iload cd_Passes_countTo_59 rfl ?_
        refine r_iaload (N := 80) cd_Passes_countTo_61 hQ.2 (by rw [hc.1]; rfl) (by omega) (by omega) (by omega) ?_
        refine r_bipush cd_Passes_countTo_62 ?_
        refine r_icmp_ne cd_Passes_countTo_64 ⟨by omega, by omega⟩ ⟨by decide, by decide⟩ (fun c_64 => ?_) (fun c_64 => ?_)
        · skip
          refine r_iinc5_4 cd_Passes_countTo_88 rfl ?_
          refine r_goto cd_Passes_countTo_91 ?_
          exact e9
        · skip
          refine r_aload_n cd_Passes_countTo_67 rfl ?_
          refine r_aload_n cd_Passes_countTo_68 rfl ?_
          refine r_iload cd_Passes_countTo_69 rfl ?_
          refine r_iload_n cd_Passes_countTo_71 rfl ?_
          refine r_iconst cd_Passes_countTo_72 ?_
          refine r_isub cd_Passes_countTo_73 ?_
          refine r_vv3 cd_Passes_countTo_74 rfl ck_Passes_countTo_Passes_leads (Nat.le_of_ble_eq_true rfl) hQ.1 rfl (sp_leads hT hw hQ hc h0 (by omega) (by omega) (by omega)) ?_
          refine r_ifeq_p cd_Passes_countTo_77 (fun c_77 => ?_) (fun c_77 => ?_)
          · skip
            refine r_iinc5_4 cd_Passes_countTo_88 rfl ?_
            refine r_goto cd_Passes_countTo_91 ?_
            exact e9
          · skip
            exact absurd ⟨c_64, c_77⟩ z
theorem lp_ou {tg : Int} (hw : WF w) : ∀ (k : Nat) (rd : Int) (c : List Int) (h : MH) (x4 : MV), 1 ≤ rd → rd + k = 11 → TabAt h 1 w → PassAt h c → CB c → Rn xs m_Passes_countTo 36 [vR 10, vR 1, vI tg, vI rd, x4] [] h none (h.set 11 (.inr (0, ouA w k rd c))) := by
  intro k
  induction k with
  | zero =>
    intro rd c h x4 r0 r1 hT hQ hc
    refine r_iload_n cd_Passes_countTo_36 rfl ?_
    refine r_bipush cd_Passes_countTo_37 ?_
    refine r_icmp_ge cd_Passes_countTo_39 ⟨by omega, by omega⟩ ⟨by decide, by decide⟩ (fun c_39 => ?_) (fun c_39 => ?_)
    · skip
      exact r_vret cd_Passes_countTo_100 rt_Passes_countTo (by exact (set_same hQ.2).symm)
    · skip
      omega
  | succ k ih =>
    intro rd c h x4 r0 r1 hT hQ hc
    have hc2 := inA_CB (w := w) (rd := rd) (by omega) (by omega) 80 0 c (by omega) (by omega) hc
    have e9 := fun x => ih (rd + 1) _ _ x (by omega) (by omega) (tab_sne (c := .inr (0, inA w rd 80 0 c)) hT (by omega) (by omega) (by omega)) (pass_set (c' := inA w rd 80 0 c) hQ) hc2
    rw [List.set_set] at e9
    have back : ∀ x, Rn xs m_Passes_countTo 94 [vR 10, vR 1, vI tg, vI rd, x] [] (h.set 11 (.inr (0, inA w rd 80 0 c))) none (h.set 11 (.inr (0, ouA w (k + 1) rd c))) := by
      intro x
      refine r_iinc5_3 cd_Passes_countTo_94 rfl ?_
      refine r_goto cd_Passes_countTo_97 ?_
      exact e9 x
    refine r_iload_n cd_Passes_countTo_36 rfl ?_
    refine r_bipush cd_Passes_countTo_37 ?_
    refine r_icmp_ge cd_Passes_countTo_39 ⟨by omega, by omega⟩ ⟨by decide, by decide⟩ (fun c_39 => ?_) (fun c_39 => ?_)
    · skip
      omega
    · skip
      refine r_iconst cd_Passes_countTo_42 ?_
      refine r_istore5_4 cd_Passes_countTo_43 rfl ?_
      exact lp_in hw r0 (by omega) 80 0 c h (by omega) (by omega) hT hQ hc back
theorem sp_countTo {tg : Int} (t0 : 0 ≤ tg) (t1 : tg < 80) (hT : TabAt h 1 w) (hw : WF w) (hQ : PassAt h c) (hc : CB c) : Sp xs m_Passes_countTo [vR 10, vR 1, vI tg] h none (h.set 11 (.inr (0, cnt w tg))) := by
  have tail : ∀ x, Rn xs m_Passes_countTo 34 [vR 10, vR 1, vI tg, x, vU] [] (h.set 11 (.inr (0, pini tg))) none (h.set 11 (.inr (0, cnt w tg))) := by
    intro x
    have e9 := lp_ou (xs := xs) (tg := tg) hw 10 1 (pini tg) (h.set 11 (.inr (0, pini tg))) vU (by omega) (by omega) (tab_sne hT (by omega) (by omega) (by omega)) (pass_set hQ) pini_CB
    rw [List.set_set] at e9
    refine r_iconst cd_Passes_countTo_34 ?_
    refine r_istoren5_3 cd_Passes_countTo_35 rfl ?_
    exact e9
  refine en_Passes_countTo ?_
  refine r_iconst cd_Passes_countTo_0 ?_
  refine r_istoren5_3 cd_Passes_countTo_1 rfl ?_
  exact lp_cnt0 t0 t1 80 0 c h (by omega) (by omega) hQ hc (fun j j0 j1 => by omega) tail
end C41
