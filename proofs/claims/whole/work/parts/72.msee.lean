-- the reference: seen, images, told, years
section C72
variable {xs : List Int} {c : Nat → HC} {mn mc sm om ga mr ma ax : Int} {b v sv dv fa gr ng wy im kp : List Int}
def SgR (sv sh sd : List Int) : Prop := sv.length = 16 ∧ ∀ j : Int, 0 ≤ j → j < 8 → at_ sv (2 * j) = at_ sh j ∧ at_ sv (2 * j + 1) = at_ sd j
def seV (sv : List Int) (mn s y : Int) : List Int := if (0 ≤ s ∧ s ≤ 60) ∧ mn ≠ 8 then (sv.set (2 * mn).toNat s).set (2 * mn + 1).toNat y else sv
theorem sgr_see {sh sd rw : List Int} {s y fd : Int} (hR : SgR sv sh sd) (hO : SgOK sh sd rw mn fd) : SgR (seV sv mn s y) (seH sh mn s s) (seH sd mn s y) := by
  obtain ⟨a1, a2, a3, a4, a5, a6, a7, a8⟩ := hO
  obtain ⟨r1, r2⟩ := hR
  unfold seV seH
  by_cases z : (0 ≤ s ∧ s ≤ 60) ∧ mn ≠ 8
  · rw [if_pos z, if_pos z, if_pos z]
    refine ⟨by rw [List.length_set, List.length_set]; exact r1, fun j j0 j1 => ?_⟩
    have q := r2 j j0 j1
    have key : ∀ i : Int, 0 ≤ i → at_ ((sv.set (2 * mn).toNat s).set (2 * mn + 1).toNat y) i = if 2 * mn + 1 = i then y else if 2 * mn = i then s else at_ sv i := by
      intro i i0
      rw [az_set (by omega) (by rw [List.length_set, r1]; omega) i0, az_set (by omega) (by rw [r1]; omega) i0]
    rw [key (2 * j) (by omega), key (2 * j + 1) (by omega), az_set (l := sh) a4.1 (by omega) j0, az_set (l := sd) a4.1 (by omega) j0]
    by_cases y : mn = j
    · rw [if_neg (by omega), if_pos (by omega), if_pos y, if_pos (by omega), if_pos y]
      exact ⟨rfl, rfl⟩
    · rw [if_neg (by omega), if_neg (by omega), if_neg y, if_neg (by omega), if_neg (by omega), if_neg y]
      exact q
  · rw [if_neg z, if_neg z, if_neg z]
    exact ⟨r1, r2⟩
theorem sp_M_seen {s y : Int} (hJ : JL v fa gr ng wy) (hl' : sv.length = 16) (hn : 0 ≤ mn ∧ mn ≤ 8) (hs : inR s) (hy : y = 0 ∨ y = 1) : MSp xs m_M_seen [vR 40, vI s, vI y] (z40 c (rf mn mc sm om ga mr ma ax b v sv dv fa gr ng wy im kp)) (vI (seA mn s)) c (seN mn s) mc b (seV sv mn s y) dv im kp := by
  refine ⟨(z40 c (rf (seN mn s) mc sm om ga mr ma ax b v (seV sv mn s y) dv fa gr ng wy im kp)), mj hJ, ?_⟩
  have hl : ((sv.length : Nat) : Int) = 16 := by rw [hl']; rfl
  unfold seA seN seV
  by_cases z0 : 0 ≤ s ∧ s ≤ 60
  · by_cases z1 : mn = 8
    · rw [if_pos z0, if_pos z1, if_neg (fun z => z.2 z1), if_neg (fun z => z.2 z1)]
      refine en_M_seen ?_
      refine r_iload_n cd_M_seen_0 rfl ?_
      refine r_iconst cd_M_seen_1 ?_
      refine r_bipush cd_M_seen_2 ?_
      refine r_cv3 cd_M_seen_4 rfl ck_M_seen_M_in rfl (Nat.le_of_ble_eq_true rfl) (sp_M_in hs ⟨by decide, by decide⟩ ⟨by decide, by decide⟩) ?_
      refine r_ifne_p cd_M_seen_7 (fun c_7 => ?_) (fun c_7 => ?_)
      · skip
        refine r_aload_n cd_M_seen_13 rfl ?_
        refine r_getfield cd_M_seen_14 zr_O rfl ?_
        refine r_bipush cd_M_seen_17 ?_
        refine r_icmp_ne cd_M_seen_19 ⟨by omega, by omega⟩ ⟨by decide, by decide⟩ (fun c_19 => ?_) (fun c_19 => ?_)
        · skip
          omega
        · skip
          refine r_bipush cd_M_seen_22 ?_
          exact r_iret cd_M_seen_24 rt_M_seen (by rfl) (by rfl)
      · skip
        omega
    · rw [if_pos z0, if_neg z1, if_pos ⟨z0, z1⟩, if_pos ⟨z0, z1⟩]
      have t58 : ∀ x, x = y → Rn xs m_M_seen 58 [vR 40, vI s, vI y] [vI x, vI (2 * mn + 1), vR 43] (z40 c (rf mn mc sm om ga mr ma ax b v (sv.set (2 * mn).toNat s) dv fa gr ng wy im kp)) (some (vI (mn + 1))) (z40 c (rf (mn + 1) mc sm om ga mr ma ax b v ((sv.set (2 * mn).toNat s).set (2 * mn + 1).toNat y) dv fa gr ng wy im kp)) := by
        intro x hx
        subst hx
        have hl2 : (((sv.set (2 * mn).toNat s).length : Nat) : Int) = 16 := by rw [List.length_set]; exact hl
        refine r_iastore (N := 16) cd_M_seen_58 zr_S hl2 (by omega) (by omega) (by omega) ?_
        refine r_aload_n cd_M_seen_59 rfl ?_
        refine r_dup cd_M_seen_60 rfl ?_
        refine r_getfield cd_M_seen_61 (gs_ne (by omega) zr_O) rfl ?_
        refine r_iconst cd_M_seen_64 ?_
        refine r_iadd cd_M_seen_65 ?_
        refine r_putfield cd_M_seen_66 (gs_ne (by omega) zr_O) (Nat.le_of_ble_eq_true rfl) rfl ?_
        refine r_aload_n cd_M_seen_69 rfl ?_
        refine r_getfield cd_M_seen_70 (gs_eq (gs_ne (by omega) zr_O)) rfl ?_
        exact r_iret cd_M_seen_73 rt_M_seen (by rfl) (by rfl)
      refine en_M_seen ?_
      refine r_iload_n cd_M_seen_0 rfl ?_
      refine r_iconst cd_M_seen_1 ?_
      refine r_bipush cd_M_seen_2 ?_
      refine r_cv3 cd_M_seen_4 rfl ck_M_seen_M_in rfl (Nat.le_of_ble_eq_true rfl) (sp_M_in hs ⟨by decide, by decide⟩ ⟨by decide, by decide⟩) ?_
      refine r_ifne_p cd_M_seen_7 (fun c_7 => ?_) (fun c_7 => ?_)
      · skip
        refine r_aload_n cd_M_seen_13 rfl ?_
        refine r_getfield cd_M_seen_14 zr_O rfl ?_
        refine r_bipush cd_M_seen_17 ?_
        refine r_icmp_ne cd_M_seen_19 ⟨by omega, by omega⟩ ⟨by decide, by decide⟩ (fun c_19 => ?_) (fun c_19 => ?_)
        · skip
          refine r_aload_n cd_M_seen_25 rfl ?_
          refine r_getfield cd_M_seen_26 zr_O rfl ?_
          refine r_iconst cd_M_seen_29 ?_
          refine r_aload_n cd_M_seen_30 rfl ?_
          refine r_getfield cd_M_seen_31 zr_O rfl ?_
          refine r_imul cd_M_seen_34 ?_
          refine r_iload_n cd_M_seen_35 rfl ?_
          refine r_iastore (N := 16) cd_M_seen_36 zr_S hl (by omega) (by omega) (by omega) ?_
          refine r_aload_n cd_M_seen_37 rfl ?_
          refine r_getfield cd_M_seen_38 (gs_ne (by omega) zr_O) rfl ?_
          refine r_iconst cd_M_seen_41 ?_
          refine r_aload_n cd_M_seen_42 rfl ?_
          refine r_getfield cd_M_seen_43 (gs_ne (by omega) zr_O) rfl ?_
          refine r_imul cd_M_seen_46 ?_
          refine r_iconst cd_M_seen_47 ?_
          refine r_iadd cd_M_seen_48 ?_
          refine r_iload_n cd_M_seen_49 rfl ?_
          refine r_if_eq cd_M_seen_50 ⟨by omega, by omega⟩ (fun c_50 => ?_) (fun c_50 => ?_)
          · skip
            refine r_iconst cd_M_seen_57 ?_
            exact t58 _ (by omega)
          · skip
            refine r_iconst cd_M_seen_53 ?_
            refine r_goto cd_M_seen_54 ?_
            exact t58 _ (by omega)
        · skip
          omega
      · skip
        omega
  · rw [if_neg z0, if_neg (fun z => z0 z.1), if_neg (fun z => z0 z.1)]
    refine en_M_seen ?_
    refine r_iload_n cd_M_seen_0 rfl ?_
    refine r_iconst cd_M_seen_1 ?_
    refine r_bipush cd_M_seen_2 ?_
    refine r_cv3 cd_M_seen_4 rfl ck_M_seen_M_in rfl (Nat.le_of_ble_eq_true rfl) (sp_M_in hs ⟨by decide, by decide⟩ ⟨by decide, by decide⟩) ?_
    refine r_ifne_p cd_M_seen_7 (fun c_7 => ?_) (fun c_7 => ?_)
    · skip
      omega
    · skip
      refine r_bipush cd_M_seen_10 ?_
      exact r_iret cd_M_seen_12 rt_M_seen (by rfl) (by rfl)
-- images
def cpA (src : List Int) (o : Int) : Nat → Int → List Int → List Int
  | 0, _, l => l
  | k + 1, i, l => cpA src o k (i + 1) (l.set (o + i).toNat (at_ src i))
theorem cpA_len {src : List Int} {o : Int} : ∀ (k : Nat) (i : Int) (l : List Int), (cpA src o k i l).length = l.length
  | 0, _, _ => rfl
  | k + 1, i, l => by
    unfold cpA
    rw [cpA_len k (i + 1) _, List.length_set]
theorem cpA_at {src : List Int} {o : Int} (o0 : 0 ≤ o) : ∀ (k : Nat) (i : Int) (l : List Int) (j : Int), 0 ≤ i → o + i + k ≤ l.length → 0 ≤ j → at_ (cpA src o k i l) j = if o + i ≤ j ∧ j < o + i + k then at_ src (j - o) else at_ l j
  | 0, i, l, j, h0, h1, h2 => by
    unfold cpA
    rw [if_neg (by omega)]
  | k + 1, i, l, j, h0, h1, h2 => by
    unfold cpA
    rw [cpA_at o0 k (i + 1) _ j (by omega) (by rw [List.length_set]; omega) h2, az_set (by omega) (by omega) h2]
    by_cases z : j = o + i
    · rw [if_neg (by omega), if_pos (by omega), if_pos (by omega), show j - o = i by omega]
    · by_cases y : o + (i + 1) ≤ j ∧ j < o + (i + 1) + k
      · rw [if_pos y, if_pos (by omega)]
      · rw [if_neg y, if_neg (by omega), if_neg (by omega)]
def imV (im b sv : List Int) (mn n : Int) : List Int := (cpA sv (40 * n + 21) 16 0 (cpA b (40 * n) 21 0 im)).set (40 * n + 38).toNat mn
def ImR (n : Int) (im w sv : List Int) (sn : Int) : Prop := (∀ j : Int, 0 ≤ j → j < 21 → at_ im (40 * n + j) = at_ w j) ∧ (∀ j : Int, 0 ≤ j → j < 16 → at_ im (40 * n + 21 + j) = at_ sv j) ∧ at_ im (40 * n + 38) = sn
theorem imV_len {n : Int} : (imV im b sv mn n).length = im.length := by unfold imV; rw [List.length_set, cpA_len, cpA_len]
theorem imV_R {n : Int} (hi : im.length = 80) (hn : n = 0 ∨ n = 1) : ImR n (imV im b sv mn n) b sv mn := by
  have l1 : (cpA b (40 * n) 21 0 im).length = 80 := by rw [cpA_len]; exact hi
  have l2 : (cpA sv (40 * n + 21) 16 0 (cpA b (40 * n) 21 0 im)).length = 80 := by rw [cpA_len]; exact l1
  unfold imV
  refine ⟨fun j j0 j1 => ?_, fun j j0 j1 => ?_, ?_⟩
  · rw [az_set (by omega) (by omega) (by omega), if_neg (by omega), cpA_at (by omega) 16 0 _ _ (by omega) (by omega) (by omega), if_neg (by omega), cpA_at (by omega) 21 0 _ _ (by omega) (by omega) (by omega), if_pos (by omega), show 40 * n + j - 40 * n = j by omega]
  · rw [az_set (by omega) (by omega) (by omega), if_neg (by omega), cpA_at (by omega) 16 0 _ _ (by omega) (by omega) (by omega), if_pos (by omega), show 40 * n + 21 + j - (40 * n + 21) = j by omega]
  · rw [az_set (by omega) (by omega) (by omega), if_pos (by omega)]
theorem imV_o {n n2 : Int} {w9 sv9 : List Int} {sn9 : Int} (hi : im.length = 80) (hn : n = 0 ∨ n = 1) (hn2 : n2 = 1 - n) (hR : ImR n2 im w9 sv9 sn9) : ImR n2 (imV im b sv mn n) w9 sv9 sn9 := by
  have l1 : (cpA b (40 * n) 21 0 im).length = 80 := by rw [cpA_len]; exact hi
  have l2 : (cpA sv (40 * n + 21) 16 0 (cpA b (40 * n) 21 0 im)).length = 80 := by rw [cpA_len]; exact l1
  have key : ∀ j : Int, 0 ≤ j → (40 * n2 ≤ j ∧ j < 40 * n2 + 39) → at_ (imV im b sv mn n) j = at_ im j := by
    intro j j0 j1
    unfold imV
    rw [az_set (by omega) (by omega) (by omega), if_neg (by omega), cpA_at (by omega) 16 0 _ _ (by omega) (by omega) (by omega), if_neg (by omega), cpA_at (by omega) 21 0 _ _ (by omega) (by omega) (by omega), if_neg (by omega)]
  refine ⟨fun j j0 j1 => ?_, fun j j0 j1 => ?_, ?_⟩
  · rw [key _ (by omega) (by omega)]; exact hR.1 j j0 j1
  · rw [key _ (by omega) (by omega)]; exact hR.2.1 j j0 j1
  · rw [key _ (by omega) (by omega)]; exact hR.2.2
theorem lp_M_im1 {n : Int} {r : Option MV} {X : MH} (hn : n = 0 ∨ n = 1) (hw : WF b) : ∀ (k : Nat) (i : Int) (l : List Int), 0 ≤ i → i + k = 21 → l.length = 80 → (∀ i', Rn xs m_M_image 45 [vR 40, vI n, vI (40 * n), vI i'] [] (z40 c (rf mn mc sm om ga mr ma ax b v sv dv fa gr ng wy (cpA b (40 * n) k i l) kp)) r X) → Rn xs m_M_image 19 [vR 40, vI n, vI (40 * n), vI i] [] (z40 c (rf mn mc sm om ga mr ma ax b v sv dv fa gr ng wy l kp)) r X := by
  intro k
  induction k with
  | zero =>
    intro i l i0 i1 hl2 e
    refine r_iload_n cd_M_image_19 rfl ?_
    refine r_bipush cd_M_image_20 ?_
    refine r_icmp_ge cd_M_image_22 ⟨by omega, by omega⟩ ⟨by decide, by decide⟩ (fun c_22 => ?_) (fun c_22 => ?_)
    · skip
      exact e _
    · skip
      omega
  | succ k ih =>
    intro i l i0 i1 hl2 e
    have hi : ((l.length : Nat) : Int) = 80 := by rw [hl2]; rfl
    have e9 := ih (i + 1) (l.set (40 * n + i).toNat (at_ b i)) (by omega) (by omega) (by rw [List.length_set, hl2]) e
    refine r_iload_n cd_M_image_19 rfl ?_
    refine r_bipush cd_M_image_20 ?_
    refine r_icmp_ge cd_M_image_22 ⟨by omega, by omega⟩ ⟨by decide, by decide⟩ (fun c_22 => ?_) (fun c_22 => ?_)
    · skip
      omega
    · skip
      refine r_aload_n cd_M_image_25 rfl ?_
      refine r_getfield cd_M_image_26 zr_O rfl ?_
      refine r_iload_n cd_M_image_29 rfl ?_
      refine r_iload_n cd_M_image_30 rfl ?_
      refine r_iadd cd_M_image_31 ?_
      refine r_aload_n cd_M_image_32 rfl ?_
      refine r_getfield cd_M_image_33 zr_O rfl ?_
      refine r_iload_n cd_M_image_36 rfl ?_
      refine r_iaload (N := 21) cd_M_image_37 zr_B (wlen hw) (by omega) (by omega) (by omega) ?_
      refine r_iastore (N := 80) cd_M_image_38 zr_I hi (by omega) (by omega) (by omega) ?_
      refine r_iinc4_3 cd_M_image_39 rfl ?_
      refine r_goto cd_M_image_42 ?_
      exact e9
theorem lp_M_im2 {n : Int} {r : Option MV} {X : MH} (hn : n = 0 ∨ n = 1) (hl' : sv.length = 16) : ∀ (k : Nat) (i : Int) (l : List Int), 0 ≤ i → i + k = 16 → l.length = 80 → (∀ i', Rn xs m_M_image 76 [vR 40, vI n, vI (40 * n), vI i'] [] (z40 c (rf mn mc sm om ga mr ma ax b v sv dv fa gr ng wy (cpA sv (40 * n + 21) k i l) kp)) r X) → Rn xs m_M_image 47 [vR 40, vI n, vI (40 * n), vI i] [] (z40 c (rf mn mc sm om ga mr ma ax b v sv dv fa gr ng wy l kp)) r X := by
  have hl : ((sv.length : Nat) : Int) = 16 := by rw [hl']; rfl
  intro k
  induction k with
  | zero =>
    intro i l i0 i1 hl2 e
    refine r_iload_n cd_M_image_47 rfl ?_
    refine r_bipush cd_M_image_48 ?_
    refine r_icmp_ge cd_M_image_50 ⟨by omega, by omega⟩ ⟨by decide, by decide⟩ (fun c_50 => ?_) (fun c_50 => ?_)
    · skip
      exact e _
    · skip
      omega
  | succ k ih =>
    intro i l i0 i1 hl2 e
    have hi : ((l.length : Nat) : Int) = 80 := by rw [hl2]; rfl
    have e9 := ih (i + 1) (l.set (40 * n + 21 + i).toNat (at_ sv i)) (by omega) (by omega) (by rw [List.length_set, hl2]) e
    refine r_iload_n cd_M_image_47 rfl ?_
    refine r_bipush cd_M_image_48 ?_
    refine r_icmp_ge cd_M_image_50 ⟨by omega, by omega⟩ ⟨by decide, by decide⟩ (fun c_50 => ?_) (fun c_50 => ?_)
    · skip
      omega
    · skip
      refine r_aload_n cd_M_image_53 rfl ?_
      refine r_getfield cd_M_image_54 zr_O rfl ?_
      refine r_iload_n cd_M_image_57 rfl ?_
      refine r_bipush cd_M_image_58 ?_
      refine r_iadd cd_M_image_60 ?_
      refine r_iload_n cd_M_image_61 rfl ?_
      refine r_iadd cd_M_image_62 ?_
      refine r_aload_n cd_M_image_63 rfl ?_
      refine r_getfield cd_M_image_64 zr_O rfl ?_
      refine r_iload_n cd_M_image_67 rfl ?_
      refine r_iaload (N := 16) cd_M_image_68 zr_S hl (by omega) (by omega) (by omega) ?_
      refine r_iastore (N := 80) cd_M_image_69 zr_I hi (by omega) (by omega) (by omega) ?_
      refine r_iinc4_3 cd_M_image_70 rfl ?_
      refine r_goto cd_M_image_73 ?_
      exact e9
theorem sp_M_image_n {n : Int} (hJ : JL v fa gr ng wy) (hn : inR n) (z : ¬ (n = 0 ∨ n = 1)) : MSp xs m_M_image [vR 40, vI n] (z40 c (rf mn mc sm om ga mr ma ax b v sv dv fa gr ng wy im kp)) (vI (-2)) c mn mc b sv dv im kp := by
  refine ⟨(z40 c (rf mn mc sm om ga mr ma ax b v sv dv fa gr ng wy im kp)), mj hJ, ?_⟩
  refine en_M_image ?_
  refine r_iload_n cd_M_image_0 rfl ?_
  refine r_iconst cd_M_image_1 ?_
  refine r_iconst cd_M_image_2 ?_
  refine r_cv3 cd_M_image_3 rfl ck_M_image_M_in rfl (Nat.le_of_ble_eq_true rfl) (sp_M_in hn ⟨by decide, by decide⟩ ⟨by decide, by decide⟩) ?_
  refine r_ifne_p cd_M_image_6 (fun c_6 => ?_) (fun c_6 => ?_)
  · skip
    omega
  · skip
    refine r_bipush cd_M_image_9 ?_
    exact r_iret cd_M_image_11 rt_M_image (by rfl) (by rfl)
theorem sp_M_image {n : Int} (hJ : JL v fa gr ng wy) (hw : WF b) (hl' : sv.length = 16) (hi' : im.length = 80) (hk' : kp.length = 2) (hn : n = 0 ∨ n = 1) : MSp xs m_M_image [vR 40, vI n] (z40 c (rf mn mc sm om ga mr ma ax b v sv dv fa gr ng wy im kp)) (vI 1) c mn mc b sv dv (imV im b sv mn n) (kp.set n.toNat 1) := by
  refine ⟨(z40 c (rf mn mc sm om ga mr ma ax b v sv dv fa gr ng wy (imV im b sv mn n) (kp.set n.toNat 1))), mj hJ, ?_⟩
  have hk2 : ((kp.length : Nat) : Int) = 2 := by rw [hk']; rfl
  have l1 : (cpA b (40 * n) 21 0 im).length = 80 := by rw [cpA_len]; exact hi'
  have l2 : (cpA sv (40 * n + 21) 16 0 (cpA b (40 * n) 21 0 im)).length = 80 := by rw [cpA_len]; exact l1
  have hi : (((cpA sv (40 * n + 21) 16 0 (cpA b (40 * n) 21 0 im)).length : Nat) : Int) = 80 := by rw [l2]; rfl
  have t76 : ∀ i', Rn xs m_M_image 76 [vR 40, vI n, vI (40 * n), vI i'] [] (z40 c (rf mn mc sm om ga mr ma ax b v sv dv fa gr ng wy (cpA sv (40 * n + 21) 16 0 (cpA b (40 * n) 21 0 im)) kp)) (some (vI 1)) (z40 c (rf mn mc sm om ga mr ma ax b v sv dv fa gr ng wy (imV im b sv mn n) (kp.set n.toNat 1))) := by
    intro i'
    refine r_aload_n cd_M_image_76 rfl ?_
    refine r_getfield cd_M_image_77 zr_O rfl ?_
    refine r_iload_n cd_M_image_80 rfl ?_
    refine r_bipush cd_M_image_81 ?_
    refine r_iadd cd_M_image_83 ?_
    refine r_aload_n cd_M_image_84 rfl ?_
    refine r_getfield cd_M_image_85 zr_O rfl ?_
    refine r_iastore (N := 80) cd_M_image_88 zr_I hi (by omega) (by omega) (by omega) ?_
    refine r_aload_n cd_M_image_89 rfl ?_
    refine r_getfield cd_M_image_90 (gs_ne (by omega) zr_O) rfl ?_
    refine r_iload_n cd_M_image_93 rfl ?_
    refine r_iconst cd_M_image_94 ?_
    refine r_bastore (N := 2) cd_M_image_95 (gs_ne (by omega) zr_K) hk2 (by omega) (by omega) (by omega) (by omega) ?_
    refine r_iconst cd_M_image_96 ?_
    exact r_iret cd_M_image_97 rt_M_image (by rfl) (by rfl)
  have t45 : ∀ i', Rn xs m_M_image 45 [vR 40, vI n, vI (40 * n), vI i'] [] (z40 c (rf mn mc sm om ga mr ma ax b v sv dv fa gr ng wy (cpA b (40 * n) 21 0 im) kp)) (some (vI 1)) (z40 c (rf mn mc sm om ga mr ma ax b v sv dv fa gr ng wy (imV im b sv mn n) (kp.set n.toNat 1))) := by
    intro i'
    have e9 := lp_M_im2 (xs := xs) (c := c) (mn := mn) (mc := mc) (sm := sm) (om := om) (ga := ga) (mr := mr) (ma := ma) (ax := ax) (b := b) (v := v) (dv := dv) (fa := fa) (gr := gr) (ng := ng) (wy := wy) (kp := kp) hn hl' 16 0 _ (by omega) (by omega) l1 t76
    refine r_iconst cd_M_image_45 ?_
    refine r_istoren4_3 cd_M_image_46 rfl ?_
    exact e9
  have e9 := lp_M_im1 (xs := xs) (c := c) (mn := mn) (mc := mc) (sm := sm) (om := om) (ga := ga) (mr := mr) (ma := ma) (ax := ax) (v := v) (sv := sv) (dv := dv) (fa := fa) (gr := gr) (ng := ng) (wy := wy) (kp := kp) hn hw 21 0 _ (by omega) (by omega) hi' t45
  refine en_M_image ?_
  refine r_iload_n cd_M_image_0 rfl ?_
  refine r_iconst cd_M_image_1 ?_
  refine r_iconst cd_M_image_2 ?_
  refine r_cv3 cd_M_image_3 rfl ck_M_image_M_in rfl (Nat.le_of_ble_eq_true rfl) (sp_M_in ⟨by omega, by omega⟩ ⟨by decide, by decide⟩ ⟨by decide, by decide⟩) ?_
  refine r_ifne_p cd_M_image_6 (fun c_6 => ?_) (fun c_6 => ?_)
  · skip
    refine r_bipush cd_M_image_12 ?_
    refine r_iload_n cd_M_image_14 rfl ?_
    refine r_imul cd_M_image_15 ?_
    refine r_istoren4_2 cd_M_image_16 rfl ?_
    refine r_iconst cd_M_image_17 ?_
    refine r_istoren4_3 cd_M_image_18 rfl ?_
    exact e9
  · skip
    omega
theorem sp_M_restore_n {n : Int} (hJ : JL v fa gr ng wy) (hn : inR n) (z : ¬ (n = 0 ∨ n = 1)) : MSp xs m_M_restore [vR 40, vI n] (z40 c (rf mn mc sm om ga mr ma ax b v sv dv fa gr ng wy im kp)) (vI (-2)) c mn mc b sv dv im kp := by
  refine ⟨(z40 c (rf mn mc sm om ga mr ma ax b v sv dv fa gr ng wy im kp)), mj hJ, ?_⟩
  refine en_M_restore ?_
  refine r_iload_n cd_M_restore_0 rfl ?_
  refine r_iconst cd_M_restore_1 ?_
  refine r_iconst cd_M_restore_2 ?_
  refine r_cv3 cd_M_restore_3 rfl ck_M_restore_M_in rfl (Nat.le_of_ble_eq_true rfl) (sp_M_in hn ⟨by decide, by decide⟩ ⟨by decide, by decide⟩) ?_
  refine r_ifne_p cd_M_restore_6 (fun c_6 => ?_) (fun c_6 => ?_)
  · skip
    omega
  · skip
    refine r_bipush cd_M_restore_9 ?_
    exact r_iret cd_M_restore_11 rt_M_restore (by rfl) (by rfl)
theorem sp_M_restore_f {n : Int} (hJ : JL v fa gr ng wy) (hk' : kp.length = 2) (hn : n = 0 ∨ n = 1) (z : at_ kp n = 0) : MSp xs m_M_restore [vR 40, vI n] (z40 c (rf mn mc sm om ga mr ma ax b v sv dv fa gr ng wy im kp)) (vI (-3)) c mn mc b sv dv im kp := by
  have hk2 : ((kp.length : Nat) : Int) = 2 := by rw [hk']; rfl
  refine ⟨(z40 c (rf mn mc sm om ga mr ma ax b v sv dv fa gr ng wy im kp)), mj hJ, ?_⟩
  refine en_M_restore ?_
  refine r_iload_n cd_M_restore_0 rfl ?_
  refine r_iconst cd_M_restore_1 ?_
  refine r_iconst cd_M_restore_2 ?_
  refine r_cv3 cd_M_restore_3 rfl ck_M_restore_M_in rfl (Nat.le_of_ble_eq_true rfl) (sp_M_in ⟨by omega, by omega⟩ ⟨by decide, by decide⟩ ⟨by decide, by decide⟩) ?_
  refine r_ifne_p cd_M_restore_6 (fun c_6 => ?_) (fun c_6 => ?_)
  · skip
    refine r_aload_n cd_M_restore_12 rfl ?_
    refine r_getfield cd_M_restore_13 zr_O rfl ?_
    refine r_iload_n cd_M_restore_16 rfl ?_
    refine r_baload (N := 2) cd_M_restore_17 zr_K hk2 (by omega) (by omega) (by omega) ?_
    refine r_if_ne cd_M_restore_18 ⟨by omega, by omega⟩ (fun c_18 => ?_) (fun c_18 => ?_)
    · skip
      omega
    · skip
      refine r_bipush cd_M_restore_21 ?_
      exact r_iret cd_M_restore_23 rt_M_restore (by rfl) (by rfl)
  · skip
    omega
theorem lp_M_re1 {n : Int} {w9 : List Int} {r : Option MV} {X : MH} (hn : n = 0 ∨ n = 1) (hi' : im.length = 80) (lw : w9.length = 21) (hR : ∀ j : Int, 0 ≤ j → j < 21 → at_ im (40 * n + j) = at_ w9 j) : ∀ (k : Nat) (i : Int) (l : List Int), 0 ≤ i → i + k = 21 → l.length = 21 → (∀ j : Int, 0 ≤ j → j < i → at_ l j = at_ w9 j) → (∀ i', Rn xs m_M_restore 57 [vR 40, vI n, vI (40 * n), vI i'] [] (z40 c (rf mn mc sm om ga mr ma ax w9 v sv dv fa gr ng wy im kp)) r X) → Rn xs m_M_restore 31 [vR 40, vI n, vI (40 * n), vI i] [] (z40 c (rf mn mc sm om ga mr ma ax l v sv dv fa gr ng wy im kp)) r X := by
  have hi : ((im.length : Nat) : Int) = 80 := by rw [hi']; rfl
  intro k
  induction k with
  | zero =>
    intro i l i0 i1 hl2 hq e
    have : l = w9 := ext_at hl2 lw (fun j j0 j1 => hq j j0 (by omega))
    subst this
    refine r_iload_n cd_M_restore_31 rfl ?_
    refine r_bipush cd_M_restore_32 ?_
    refine r_icmp_ge cd_M_restore_34 ⟨by omega, by omega⟩ ⟨by decide, by decide⟩ (fun c_34 => ?_) (fun c_34 => ?_)
    · skip
      exact e _
    · skip
      omega
  | succ k ih =>
    intro i l i0 i1 hl2 hq e
    have lb : ((l.length : Nat) : Int) = 21 := by rw [hl2]; rfl
    have e9 := ih (i + 1) (l.set i.toNat (at_ w9 i)) (by omega) (by omega) (by rw [List.length_set, hl2]) (cp_step i0 (by omega) hq) e
    rw [← hR i i0 (by omega)] at e9
    refine r_iload_n cd_M_restore_31 rfl ?_
    refine r_bipush cd_M_restore_32 ?_
    refine r_icmp_ge cd_M_restore_34 ⟨by omega, by omega⟩ ⟨by decide, by decide⟩ (fun c_34 => ?_) (fun c_34 => ?_)
    · skip
      omega
    · skip
      refine r_aload_n cd_M_restore_37 rfl ?_
      refine r_getfield cd_M_restore_38 zr_O rfl ?_
      refine r_iload_n cd_M_restore_41 rfl ?_
      refine r_aload_n cd_M_restore_42 rfl ?_
      refine r_getfield cd_M_restore_43 zr_O rfl ?_
      refine r_iload_n cd_M_restore_46 rfl ?_
      refine r_iload_n cd_M_restore_47 rfl ?_
      refine r_iadd cd_M_restore_48 ?_
      refine r_iaload (N := 80) cd_M_restore_49 zr_I hi (by omega) (by omega) (by omega) ?_
      refine r_iastore (N := 21) cd_M_restore_50 zr_B lb (by omega) (by omega) (by omega) ?_
      refine r_iinc4_3 cd_M_restore_51 rfl ?_
      refine r_goto cd_M_restore_54 ?_
      exact e9
theorem lp_M_re2 {n : Int} {sv9 : List Int} {r : Option MV} {X : MH} (hn : n = 0 ∨ n = 1) (hi' : im.length = 80) (lw : sv9.length = 16) (hR : ∀ j : Int, 0 ≤ j → j < 16 → at_ im (40 * n + 21 + j) = at_ sv9 j) : ∀ (k : Nat) (i : Int) (l : List Int), 0 ≤ i → i + k = 16 → l.length = 16 → (∀ j : Int, 0 ≤ j → j < i → at_ l j = at_ sv9 j) → (∀ i', Rn xs m_M_restore 88 [vR 40, vI n, vI (40 * n), vI i'] [] (z40 c (rf mn mc sm om ga mr ma ax b v sv9 dv fa gr ng wy im kp)) r X) → Rn xs m_M_restore 59 [vR 40, vI n, vI (40 * n), vI i] [] (z40 c (rf mn mc sm om ga mr ma ax b v l dv fa gr ng wy im kp)) r X := by
  have hi : ((im.length : Nat) : Int) = 80 := by rw [hi']; rfl
  intro k
  induction k with
  | zero =>
    intro i l i0 i1 hl2 hq e
    have : l = sv9 := ext_at hl2 lw (fun j j0 j1 => hq j j0 (by omega))
    subst this
    refine r_iload_n cd_M_restore_59 rfl ?_
    refine r_bipush cd_M_restore_60 ?_
    refine r_icmp_ge cd_M_restore_62 ⟨by omega, by omega⟩ ⟨by decide, by decide⟩ (fun c_62 => ?_) (fun c_62 => ?_)
    · skip
      exact e _
    · skip
      omega
  | succ k ih =>
    intro i l i0 i1 hl2 hq e
    have hl : ((l.length : Nat) : Int) = 16 := by rw [hl2]; rfl
    have e9 := ih (i + 1) (l.set i.toNat (at_ sv9 i)) (by omega) (by omega) (by rw [List.length_set, hl2]) (cp_step i0 (by omega) hq) e
    rw [← hR i i0 (by omega)] at e9
    refine r_iload_n cd_M_restore_59 rfl ?_
    refine r_bipush cd_M_restore_60 ?_
    refine r_icmp_ge cd_M_restore_62 ⟨by omega, by omega⟩ ⟨by decide, by decide⟩ (fun c_62 => ?_) (fun c_62 => ?_)
    · skip
      omega
    · skip
      refine r_aload_n cd_M_restore_65 rfl ?_
      refine r_getfield cd_M_restore_66 zr_O rfl ?_
      refine r_iload_n cd_M_restore_69 rfl ?_
      refine r_aload_n cd_M_restore_70 rfl ?_
      refine r_getfield cd_M_restore_71 zr_O rfl ?_
      refine r_iload_n cd_M_restore_74 rfl ?_
      refine r_bipush cd_M_restore_75 ?_
      refine r_iadd cd_M_restore_77 ?_
      refine r_iload_n cd_M_restore_78 rfl ?_
      refine r_iadd cd_M_restore_79 ?_
      refine r_iaload (N := 80) cd_M_restore_80 zr_I hi (by omega) (by omega) (by omega) ?_
      refine r_iastore (N := 16) cd_M_restore_81 zr_S hl (by omega) (by omega) (by omega) ?_
      refine r_iinc4_3 cd_M_restore_82 rfl ?_
      refine r_goto cd_M_restore_85 ?_
      exact e9
theorem sp_M_restore {n sn9 : Int} {w9 sv9 : List Int} (hJ : JL v fa gr ng wy) (hw : WF b) (hl' : sv.length = 16) (hi' : im.length = 80) (hk' : kp.length = 2) (hn : n = 0 ∨ n = 1) (z : at_ kp n = 1) (lw : w9.length = 21) (lsv : sv9.length = 16) (hR : ImR n im w9 sv9 sn9) : MSp xs m_M_restore [vR 40, vI n] (z40 c (rf mn mc sm om ga mr ma ax b v sv dv fa gr ng wy im kp)) (vI 1) c sn9 mc w9 sv9 dv im kp := by
  refine ⟨(z40 c (rf sn9 mc sm om ga mr ma ax w9 v sv9 dv fa gr ng wy im kp)), mj hJ, ?_⟩
  have hk2 : ((kp.length : Nat) : Int) = 2 := by rw [hk']; rfl
  have hi : ((im.length : Nat) : Int) = 80 := by rw [hi']; rfl
  have t88 : ∀ i', Rn xs m_M_restore 88 [vR 40, vI n, vI (40 * n), vI i'] [] (z40 c (rf mn mc sm om ga mr ma ax w9 v sv9 dv fa gr ng wy im kp)) (some (vI 1)) (z40 c (rf sn9 mc sm om ga mr ma ax w9 v sv9 dv fa gr ng wy im kp)) := by
    intro i'
    refine r_aload_n cd_M_restore_88 rfl ?_
    refine r_aload_n cd_M_restore_89 rfl ?_
    refine r_getfield cd_M_restore_90 zr_O rfl ?_
    refine r_iload_n cd_M_restore_93 rfl ?_
    refine r_bipush cd_M_restore_94 ?_
    refine r_iadd cd_M_restore_96 ?_
    refine r_iaload (N := 80) cd_M_restore_97 zr_I hi (by omega) (by omega) (by omega) ?_
    refine r_putfield cd_M_restore_98 zr_O (Nat.le_of_ble_eq_true rfl) rfl ?_
    refine r_iconst cd_M_restore_101 ?_
    exact r_iret cd_M_restore_102 rt_M_restore (by rfl) (by (rw [hR.2.2]; rfl))
  have t57 : ∀ i', Rn xs m_M_restore 57 [vR 40, vI n, vI (40 * n), vI i'] [] (z40 c (rf mn mc sm om ga mr ma ax w9 v sv dv fa gr ng wy im kp)) (some (vI 1)) (z40 c (rf sn9 mc sm om ga mr ma ax w9 v sv9 dv fa gr ng wy im kp)) := by
    intro i'
    have e9 := lp_M_re2 (xs := xs) (c := c) (mn := mn) (mc := mc) (sm := sm) (om := om) (ga := ga) (mr := mr) (ma := ma) (ax := ax) (b := w9) (v := v) (dv := dv) (fa := fa) (gr := gr) (ng := ng) (wy := wy) (kp := kp) hn hi' lsv hR.2.1 16 0 sv (by omega) (by omega) hl' (fun j j0 j1 => by omega) t88
    refine r_iconst cd_M_restore_57 ?_
    refine r_istoren4_3 cd_M_restore_58 rfl ?_
    exact e9
  have e9 := lp_M_re1 (xs := xs) (c := c) (mn := mn) (mc := mc) (sm := sm) (om := om) (ga := ga) (mr := mr) (ma := ma) (ax := ax) (v := v) (sv := sv) (dv := dv) (fa := fa) (gr := gr) (ng := ng) (wy := wy) (kp := kp) hn hi' lw hR.1 21 0 b (by omega) (by omega) hw.1 (fun j j0 j1 => by omega) t57
  refine en_M_restore ?_
  refine r_iload_n cd_M_restore_0 rfl ?_
  refine r_iconst cd_M_restore_1 ?_
  refine r_iconst cd_M_restore_2 ?_
  refine r_cv3 cd_M_restore_3 rfl ck_M_restore_M_in rfl (Nat.le_of_ble_eq_true rfl) (sp_M_in ⟨by omega, by omega⟩ ⟨by decide, by decide⟩ ⟨by decide, by decide⟩) ?_
  refine r_ifne_p cd_M_restore_6 (fun c_6 => ?_) (fun c_6 => ?_)
  · skip
    refine r_aload_n cd_M_restore_12 rfl ?_
    refine r_getfield cd_M_restore_13 zr_O rfl ?_
    refine r_iload_n cd_M_restore_16 rfl ?_
    refine r_baload (N := 2) cd_M_restore_17 zr_K hk2 (by omega) (by omega) (by omega) ?_
    refine r_if_ne cd_M_restore_18 ⟨by omega, by omega⟩ (fun c_18 => ?_) (fun c_18 => ?_)
    · skip
      refine r_bipush cd_M_restore_24 ?_
      refine r_iload_n cd_M_restore_26 rfl ?_
      refine r_imul cd_M_restore_27 ?_
      refine r_istoren4_2 cd_M_restore_28 rfl ?_
      refine r_iconst cd_M_restore_29 ?_
      refine r_istoren4_3 cd_M_restore_30 rfl ?_
      exact e9
    · skip
      omega
  · skip
    omega
-- told
theorem orK : ∀ k : Nat, k < 8 → ∀ x : Nat, x < 2 ^ k → ∀ y : Nat, y < 2 → bOr (x : Int) (bShl (y : Int) (k : Int)) = ((x + y * 2 ^ k : Nat) : Int) := by decide +kernel
def hbP (w : List Int) : Nat → Int
  | 0 => 0
  | k + 1 => hbP w k + at_ w (8 + k) * (2 ^ k : Nat)
theorem hbP_bd (hw : WF b) : ∀ k : Nat, k ≤ 8 → 0 ≤ hbP b k ∧ hbP b k < (2 ^ k : Nat)
  | 0, _ => by unfold hbP; decide
  | k + 1, h => by
    have ih := hbP_bd hw k (by omega)
    have hb := hw.2.2.1 k (by omega) (by omega)
    unfold hbP
    rw [show (2 ^ (k + 1) : Nat) = 2 ^ k * 2 from Nat.pow_succ ..]
    rcases hb with z | z <;> rw [z] <;> omega
theorem hbP_or (hw : WF b) {k : Nat} (hk : k < 8) : bOr (hbP b k) (bShl (at_ b (8 + k)) (k : Int)) = hbP b (k + 1) := by
  have q := hbP_bd hw k (by omega)
  have hb := hw.2.2.1 k (by omega) (by omega)
  have e := orK k hk (hbP b k).toNat (by omega) (at_ b (8 + k)).toNat (by omega)
  rw [show (((hbP b k).toNat : Nat) : Int) = hbP b k by omega, show (((at_ b (8 + k)).toNat : Nat) : Int) = at_ b (8 + k) by omega] at e
  have e2 : hbP b (k + 1) = hbP b k + at_ b (8 + k) * (2 ^ k : Nat) := rfl
  rw [e, e2]
  rw [Int.natCast_add, Int.natCast_mul, show (((hbP b k).toNat : Nat) : Int) = hbP b k by omega, show (((at_ b (8 + k)).toNat : Nat) : Int) = at_ b (8 + k) by omega]
theorem hbP_8 : hbP b 8 = hbits b := by
  have e : hbP b 8 = 0 + at_ b (8 + (0 : Nat)) * (2 ^ 0 : Nat) + at_ b (8 + (1 : Nat)) * (2 ^ 1 : Nat) + at_ b (8 + (2 : Nat)) * (2 ^ 2 : Nat) + at_ b (8 + (3 : Nat)) * (2 ^ 3 : Nat) + at_ b (8 + (4 : Nat)) * (2 ^ 4 : Nat) + at_ b (8 + (5 : Nat)) * (2 ^ 5 : Nat) + at_ b (8 + (6 : Nat)) * (2 ^ 6 : Nat) + at_ b (8 + (7 : Nat)) * (2 ^ 7 : Nat) := rfl
  rw [e]
  unfold hbits
  rw [show (8 : Int) + (0 : Nat) = 8 by rfl, show (8 : Int) + (1 : Nat) = 9 by rfl, show (8 : Int) + (2 : Nat) = 10 by rfl, show (8 : Int) + (3 : Nat) = 11 by rfl, show (8 : Int) + (4 : Nat) = 12 by rfl, show (8 : Int) + (5 : Nat) = 13 by rfl, show (8 : Int) + (6 : Nat) = 14 by rfl, show (8 : Int) + (7 : Nat) = 15 by rfl]
  omega
theorem lp_M_told {what : Int} {r : Option MV} {X : MH} (hw : WF b) : ∀ (k n : Nat), n + k = 8 → (∀ i', Rn xs m_M_told 137 [vR 40, vI what, vI (hbits b), vI i'] [] (z40 c (rf mn mc sm om ga mr ma ax b v sv dv fa gr ng wy im kp)) r X) → Rn xs m_M_told 111 [vR 40, vI what, vI (hbP b n), vI (n : Int)] [] (z40 c (rf mn mc sm om ga mr ma ax b v sv dv fa gr ng wy im kp)) r X := by
  intro k
  induction k with
  | zero =>
    intro n h1 e
    have : n = 8 := by omega
    subst this
    rw [hbP_8]
    refine r_iload_n cd_M_told_111 rfl ?_
    refine r_bipush cd_M_told_112 ?_
    refine r_icmp_ge cd_M_told_114 ⟨by omega, by omega⟩ ⟨by decide, by decide⟩ (fun c_114 => ?_) (fun c_114 => ?_)
    · skip
      exact e _
    · skip
      omega
  | succ k ih =>
    intro n h1 e
    have e9 := ih (n + 1) (by omega) e
    have e8 := hbP_or hw (k := n) (by omega)
    rw [show ((n + 1 : Nat) : Int) = (n : Int) + 1 by omega] at e9
    refine r_iload_n cd_M_told_111 rfl ?_
    refine r_bipush cd_M_told_112 ?_
    refine r_icmp_ge cd_M_told_114 ⟨by omega, by omega⟩ ⟨by decide, by decide⟩ (fun c_114 => ?_) (fun c_114 => ?_)
    · skip
      omega
    · skip
      refine r_iload_n cd_M_told_117 rfl ?_
      refine r_aload_n cd_M_told_118 rfl ?_
      refine r_getfield cd_M_told_119 zr_O rfl ?_
      refine r_bipush cd_M_told_122 ?_
      refine r_iload_n cd_M_told_124 rfl ?_
      refine r_iadd cd_M_told_125 ?_
      refine r_iaload (N := 21) cd_M_told_126 zr_B (wlen hw) (by omega) (by omega) (by omega) ?_
      refine r_iload_n cd_M_told_127 rfl ?_
      refine r_ishl cd_M_told_128 ?_
      refine r_ior cd_M_told_129 ?_
      refine r_istoren4_2 cd_M_told_130 rfl ?_
      refine r_iinc4_3 cd_M_told_131 rfl ?_
      refine r_goto cd_M_told_134 ?_
      (rw [e8]; exact e9)
theorem sp_M_told {what : Int} (hJ : JL v fa gr ng wy) (hw : WF b) (hx : inR what) : MSp xs m_M_told [vR 40, vI what] (z40 c (rf mn mc sm om ga mr ma ax b v sv dv fa gr ng wy im kp)) (vI (toA b mc mn what)) c mn mc b sv dv im kp := by
  obtain ⟨x1, x2⟩ := id hx
  refine ⟨(z40 c (rf mn mc sm om (-6) mr ma ax b b sv dv fa gr ng wy im kp)), mj (jl_v hJ hw.1), ?_⟩
  have sA : Sp xs m_M_asNow [vR 40] (z40 c (rf mn mc sm om ga mr ma ax b v sv dv fa gr ng wy im kp)) none (z40 c (rf mn mc sm om (-6) mr ma ax b b sv dv fa gr ng wy im kp)) := sp_asN hw.1 hJ.1
  have e1 : 0 ≤ what → what.tdiv 10 = what / 10 := fun z => Int.tdiv_eq_ediv_of_nonneg z
  have e2 : 0 ≤ what → what.tmod 10 = what % 10 := fun z => Int.tmod_eq_emod_of_nonneg z
  have tg : what < 0 ∨ 6 ≤ what → toA b mc mn what = tnA b what := by
    intro z
    unfold toA
    rw [if_neg (by omega), if_neg (by omega), if_neg (by omega), if_neg (by omega), if_neg (by omega), if_neg (by omega)]
  by_cases z0 : 100 ≤ what
  · have hm := fun (a : 0 ≤ what / 10 - 10) (b : what / 10 - 10 < 8) => men_bd a b
    have fin : toA b mc mn what = if 0 ≤ what % 10 ∧ 0 ≤ what / 10 - 10 ∧ what / 10 - 10 < 8 ∧ what % 10 < men (what / 10 - 10) then pos b (what / 10 - 10) (what % 10) else -2 := by
      rw [tg (by omega)]
      unfold tnA
      rw [if_neg (by omega), if_neg (by omega), show (what - 100) / 10 = what / 10 - 10 by omega, show (what - 100) % 10 = what % 10 by omega]
      by_cases y : what ≤ 179
      · rw [if_pos ⟨z0, y⟩]
        by_cases q : what % 10 < men (what / 10 - 10)
        · rw [if_pos q, if_pos ⟨by omega, by omega, by omega, q⟩]
        · rw [if_neg q, if_neg (fun z => q z.2.2.2)]
      · rw [if_neg (by omega), if_neg (by omega)]
    rw [fin]
    have t18 : Rn xs m_M_told 18 [vR 40, vI what, vI (what / 10 - 10), vU] [] (z40 c (rf mn mc sm om (-6) mr ma ax b b sv dv fa gr ng wy im kp)) (some (vI (if 0 ≤ what % 10 ∧ 0 ≤ what / 10 - 10 ∧ what / 10 - 10 < 8 ∧ what % 10 < men (what / 10 - 10) then pos b (what / 10 - 10) (what % 10) else -2))) (z40 c (rf mn mc sm om (-6) mr ma ax b b sv dv fa gr ng wy im kp)) := by
      refine r_iload_n cd_M_told_18 rfl ?_
      refine r_iload_n cd_M_told_19 rfl ?_
      refine r_bipush cd_M_told_20 ?_
      refine r_irem cd_M_told_22 ⟨by omega, by omega⟩ ⟨by decide, by decide⟩ (by decide) ?_
      refine r_cv2 cd_M_told_23 rfl ck_M_told_M_isMan rfl (Nat.le_of_ble_eq_true rfl) (by rw [e2 (by omega)]; exact sp_M_isMan (by constructor <;> omega) (by constructor <;> omega)) ?_
      refine r_ifeq_p cd_M_told_26 (fun c_26 => ?_) (fun c_26 => ?_)
      · skip
        refine r_bipush cd_M_told_41 ?_
        exact r_iret cd_M_told_43 rt_M_told (by first | (rw [if_pos c_26]; done) | (rw [if_neg c_26]; done)) (by rfl)
      · skip
        refine r_aload_n cd_M_told_29 rfl ?_
        refine r_iload_n cd_M_told_30 rfl ?_
        refine r_iload_n cd_M_told_31 rfl ?_
        refine r_bipush cd_M_told_32 ?_
        refine r_irem cd_M_told_34 ⟨by omega, by omega⟩ ⟨by decide, by decide⟩ (by decide) ?_
        refine r_vv2 cd_M_told_35 rfl ck_M_told_M_standsAt (Nat.le_of_ble_eq_true rfl) zr_O rfl (by rw [e2 (by omega)]; exact sp_M_standsAt zr_O zr_N hw c_26.2.1 c_26.2.2.1) ?_
        refine r_goto cd_M_told_38 ?_
        exact r_iret cd_M_told_43 rt_M_told (by first | (rw [if_pos c_26]; done) | (rw [if_neg c_26]; done)) (by rfl)
    refine en_M_told ?_
    refine r_aload_n cd_M_told_0 rfl ?_
    refine r_vz0 cd_M_told_1 rfl ck_M_told_M_asNow (Nat.le_of_ble_eq_true rfl) zr_O rfl sA ?_
    refine r_iload_n cd_M_told_4 rfl ?_
    refine r_bipush cd_M_told_5 ?_
    refine r_icmp_lt cd_M_told_7 ⟨by omega, by omega⟩ ⟨by decide, by decide⟩ (fun c_7 => ?_) (fun c_7 => ?_)
    · skip
      omega
    · skip
      refine r_iload_n cd_M_told_10 rfl ?_
      refine r_bipush cd_M_told_11 ?_
      refine r_idiv cd_M_told_13 ⟨by omega, by omega⟩ ⟨by decide, by decide⟩ (by decide) ?_
      refine r_bipush cd_M_told_14 ?_
      refine r_isub cd_M_told_16 ?_
      refine r_istoren4_2 cd_M_told_17 rfl ?_
      (rw [e1 (by omega)]; exact t18)
  · by_cases z1 : 20 ≤ what
    · have fin : toA b mc mn what = if 0 ≤ what - 20 ∧ what - 20 < 8 then at_ b (what - 20) else -2 := by
        rw [tg (by omega)]
        unfold tnA
        rw [if_neg (by omega)]
        by_cases y : 20 ≤ what ∧ what ≤ 27
        · rw [if_pos y, if_pos (by omega)]
        · rw [if_neg y, if_neg (by omega), if_neg (by omega)]
      rw [fin]
      refine en_M_told ?_
      refine r_aload_n cd_M_told_0 rfl ?_
      refine r_vz0 cd_M_told_1 rfl ck_M_told_M_asNow (Nat.le_of_ble_eq_true rfl) zr_O rfl sA ?_
      refine r_iload_n cd_M_told_4 rfl ?_
      refine r_bipush cd_M_told_5 ?_
      refine r_icmp_lt cd_M_told_7 ⟨by omega, by omega⟩ ⟨by decide, by decide⟩ (fun c_7 => ?_) (fun c_7 => ?_)
      · skip
        refine r_iload_n cd_M_told_44 rfl ?_
        refine r_bipush cd_M_told_45 ?_
        refine r_icmp_lt cd_M_told_47 ⟨by omega, by omega⟩ ⟨by decide, by decide⟩ (fun c_47 => ?_) (fun c_47 => ?_)
        · skip
          omega
        · skip
          refine r_iload_n cd_M_told_50 rfl ?_
          refine r_bipush cd_M_told_51 ?_
          refine r_isub cd_M_told_53 ?_
          refine r_cv1 cd_M_told_54 rfl ck_M_told_M_isRod rfl (Nat.le_of_ble_eq_true rfl) (sp_M_isRod (by constructor <;> omega)) ?_
          refine r_ifeq_p cd_M_told_57 (fun c_57 => ?_) (fun c_57 => ?_)
          · skip
            refine r_bipush cd_M_told_72 ?_
            exact r_iret cd_M_told_74 rt_M_told (by first | (rw [if_pos c_57]; done) | (rw [if_neg c_57]; done)) (by rfl)
          · skip
            refine r_aload_n cd_M_told_60 rfl ?_
            refine r_getfield cd_M_told_61 zr_O rfl ?_
            refine r_iload_n cd_M_told_64 rfl ?_
            refine r_bipush cd_M_told_65 ?_
            refine r_isub cd_M_told_67 ?_
            refine r_iaload (N := 21) cd_M_told_68 zr_B (wlen hw) (by omega) (by omega) (by omega) ?_
            refine r_goto cd_M_told_69 ?_
            exact r_iret cd_M_told_74 rt_M_told (by first | (rw [if_pos c_57]; done) | (rw [if_neg c_57]; done)) (by rfl)
      · skip
        omega
    · by_cases z2 : 10 ≤ what
      · have fin : toA b mc mn what = if 10 ≤ what ∧ what ≤ 11 then at_ b (8 + what) else -2 := by
          rw [tg (by omega)]
          unfold tnA
          by_cases y : 10 ≤ what ∧ what ≤ 11
          · rw [if_pos y, if_pos y, show 18 + (what - 10) = 8 + what by omega]
          · rw [if_neg y, if_neg y, if_neg (by omega), if_neg (by omega)]
        rw [fin]
        refine en_M_told ?_
        refine r_aload_n cd_M_told_0 rfl ?_
        refine r_vz0 cd_M_told_1 rfl ck_M_told_M_asNow (Nat.le_of_ble_eq_true rfl) zr_O rfl sA ?_
        refine r_iload_n cd_M_told_4 rfl ?_
        refine r_bipush cd_M_told_5 ?_
        refine r_icmp_lt cd_M_told_7 ⟨by omega, by omega⟩ ⟨by decide, by decide⟩ (fun c_7 => ?_) (fun c_7 => ?_)
        · skip
          refine r_iload_n cd_M_told_44 rfl ?_
          refine r_bipush cd_M_told_45 ?_
          refine r_icmp_lt cd_M_told_47 ⟨by omega, by omega⟩ ⟨by decide, by decide⟩ (fun c_47 => ?_) (fun c_47 => ?_)
          · skip
            refine r_iload_n cd_M_told_75 rfl ?_
            refine r_bipush cd_M_told_76 ?_
            refine r_icmp_lt cd_M_told_78 ⟨by omega, by omega⟩ ⟨by decide, by decide⟩ (fun c_78 => ?_) (fun c_78 => ?_)
            · skip
              omega
            · skip
              refine r_iload_n cd_M_told_81 rfl ?_
              refine r_bipush cd_M_told_82 ?_
              refine r_bipush cd_M_told_84 ?_
              refine r_cv3 cd_M_told_86 rfl ck_M_told_M_in rfl (Nat.le_of_ble_eq_true rfl) (sp_M_in hx ⟨by decide, by decide⟩ ⟨by decide, by decide⟩) ?_
              refine r_ifeq_p cd_M_told_89 (fun c_89 => ?_) (fun c_89 => ?_)
              · skip
                refine r_bipush cd_M_told_104 ?_
                exact r_iret cd_M_told_106 rt_M_told (by first | (rw [if_pos c_89]; done) | (rw [if_neg c_89]; done)) (by rfl)
              · skip
                refine r_aload_n cd_M_told_92 rfl ?_
                refine r_getfield cd_M_told_93 zr_O rfl ?_
                refine r_bipush cd_M_told_96 ?_
                refine r_iload_n cd_M_told_98 rfl ?_
                refine r_iadd cd_M_told_99 ?_
                refine r_iaload (N := 21) cd_M_told_100 zr_B (wlen hw) (by omega) (by omega) (by omega) ?_
                refine r_goto cd_M_told_101 ?_
                exact r_iret cd_M_told_106 rt_M_told (by first | (rw [if_pos c_89]; done) | (rw [if_neg c_89]; done)) (by rfl)
          · skip
            omega
        · skip
          omega
      · have e9 := lp_M_told (xs := xs) (c := c) (mn := mn) (mc := mc) (sm := sm) (om := om) (ga := -6) (mr := mr) (ma := ma) (ax := ax) (v := b) (sv := sv) (dv := dv) (fa := fa) (gr := gr) (ng := ng) (wy := wy) (im := im) (kp := kp) (what := what) (r := some (vI (toA b mc mn what))) (X := (z40 c (rf mn mc sm om (-6) mr ma ax b b sv dv fa gr ng wy im kp))) hw 8 0 (by omega) (by
          intro i'
          refine r_iload_n cd_M_told_137 rfl ?_
          by_cases s_138_0 : what = 0
          · skip
            rw [s_138_0]
            refine r_switch (t := 172) cd_M_told_138 ⟨by decide, by decide⟩ (by decide) ?_
            refine r_aload_n cd_M_told_172 rfl ?_
            refine r_getfield cd_M_told_173 zr_O rfl ?_
            exact r_iret cd_M_told_176 rt_M_told (by rfl) (by rfl)
          by_cases s_138_1 : what = 1
          · skip
            rw [s_138_1]
            refine r_switch (t := 177) cd_M_told_138 ⟨by decide, by decide⟩ (by decide) ?_
            refine r_iload_n cd_M_told_177 rfl ?_
            exact r_iret cd_M_told_178 rt_M_told (by rfl) (by rfl)
          by_cases s_138_2 : what = 2
          · skip
            rw [s_138_2]
            refine r_switch (t := 179) cd_M_told_138 ⟨by decide, by decide⟩ (by decide) ?_
            refine r_aload_n cd_M_told_179 rfl ?_
            refine r_getfield cd_M_told_180 zr_O rfl ?_
            refine r_bipush cd_M_told_183 ?_
            refine r_iload_n cd_M_told_185 rfl ?_
            refine r_iadd cd_M_told_186 ?_
            refine r_iaload (N := 21) cd_M_told_187 zr_B (wlen hw) (by omega) (by omega) (by omega) ?_
            exact r_iret cd_M_told_188 rt_M_told (by rfl) (by rfl)
          by_cases s_138_3 : what = 3
          · skip
            rw [s_138_3]
            refine r_switch (t := 179) cd_M_told_138 ⟨by decide, by decide⟩ (by decide) ?_
            refine r_aload_n cd_M_told_179 rfl ?_
            refine r_getfield cd_M_told_180 zr_O rfl ?_
            refine r_bipush cd_M_told_183 ?_
            refine r_iload_n cd_M_told_185 rfl ?_
            refine r_iadd cd_M_told_186 ?_
            refine r_iaload (N := 21) cd_M_told_187 zr_B (wlen hw) (by omega) (by omega) (by omega) ?_
            exact r_iret cd_M_told_188 rt_M_told (by rfl) (by rfl)
          by_cases s_138_4 : what = 4
          · skip
            rw [s_138_4]
            refine r_switch (t := 189) cd_M_told_138 ⟨by decide, by decide⟩ (by decide) ?_
            refine r_aload_n cd_M_told_189 rfl ?_
            refine r_getfield cd_M_told_190 zr_O rfl ?_
            refine r_bipush cd_M_told_193 ?_
            refine r_iaload (N := 21) cd_M_told_195 zr_B (wlen hw) (by omega) (by omega) (by omega) ?_
            exact r_iret cd_M_told_196 rt_M_told (by rfl) (by rfl)
          refine r_switch (t := 197) cd_M_told_138 ⟨by omega, by omega⟩ (by unfold swT; rw [if_pos (by omega)]; rfl) ?_
          refine r_iload_n cd_M_told_197 rfl ?_
          refine r_iconst cd_M_told_198 ?_
          refine r_icmp_ne cd_M_told_199 ⟨by omega, by omega⟩ ⟨by decide, by decide⟩ (fun c_199 => ?_) (fun c_199 => ?_)
          · skip
            refine r_bipush cd_M_told_209 ?_
            exact r_iret cd_M_told_211 rt_M_told (by first | (rw [show what = 5 by omega]; rfl) | (rw [tg (by omega)]; unfold tnA; rw [if_neg (by omega), if_neg (by omega), if_neg (by omega)])) (by rfl)
          · skip
            refine r_aload_n cd_M_told_202 rfl ?_
            refine r_getfield cd_M_told_203 zr_O rfl ?_
            refine r_goto cd_M_told_206 ?_
            exact r_iret cd_M_told_211 rt_M_told (by first | (rw [show what = 5 by omega]; rfl) | (rw [tg (by omega)]; unfold tnA; rw [if_neg (by omega), if_neg (by omega), if_neg (by omega)])) (by rfl)
          )
        refine en_M_told ?_
        refine r_aload_n cd_M_told_0 rfl ?_
        refine r_vz0 cd_M_told_1 rfl ck_M_told_M_asNow (Nat.le_of_ble_eq_true rfl) zr_O rfl sA ?_
        refine r_iload_n cd_M_told_4 rfl ?_
        refine r_bipush cd_M_told_5 ?_
        refine r_icmp_lt cd_M_told_7 ⟨by omega, by omega⟩ ⟨by decide, by decide⟩ (fun c_7 => ?_) (fun c_7 => ?_)
        · skip
          refine r_iload_n cd_M_told_44 rfl ?_
          refine r_bipush cd_M_told_45 ?_
          refine r_icmp_lt cd_M_told_47 ⟨by omega, by omega⟩ ⟨by decide, by decide⟩ (fun c_47 => ?_) (fun c_47 => ?_)
          · skip
            refine r_iload_n cd_M_told_75 rfl ?_
            refine r_bipush cd_M_told_76 ?_
            refine r_icmp_lt cd_M_told_78 ⟨by omega, by omega⟩ ⟨by decide, by decide⟩ (fun c_78 => ?_) (fun c_78 => ?_)
            · skip
              refine r_iconst cd_M_told_107 ?_
              refine r_istoren4_2 cd_M_told_108 rfl ?_
              refine r_iconst cd_M_told_109 ?_
              refine r_istoren4_3 cd_M_told_110 rfl ?_
              exact e9
            · skip
              omega
          · skip
            omega
        · skip
          omega
end C72
