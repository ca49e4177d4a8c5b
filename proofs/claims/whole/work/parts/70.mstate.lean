-- the reference's heap; its simple calls
section C70
def z40 (c : Nat → HC) (R : MH) : MH := c 0 :: c 1 :: c 2 :: c 3 :: c 4 :: c 5 :: c 6 :: c 7 :: c 8 :: c 9 :: c 10 :: c 11 :: c 12 :: c 13 :: c 14 :: c 15 :: c 16 :: c 17 :: c 18 :: c 19 :: c 20 :: c 21 :: c 22 :: c 23 :: c 24 :: c 25 :: c 26 :: c 27 :: c 28 :: c 29 :: c 30 :: c 31 :: c 32 :: c 33 :: c 34 :: c 35 :: c 36 :: c 37 :: c 38 :: c 39 :: R
def rf (mn mc sm om ga mr ma ax : Int) (b v sv dv fa gr ng wy im kp : List Int) : MH := [mob mn mc sm om ga mr ma ax, .inr (0, b), .inr (0, v), .inr (0, sv), .inr (0, dv), .inr (0, fa), .inr (0, gr), .inr (0, ng), .inr (1, wy), .inr (0, im), .inr (2, kp)]
def JL (v fa gr ng wy : List Int) : Prop := v.length = 21 ∧ fa.length = 40 ∧ gr.length = 16 ∧ ng.length = 16 ∧ wy.length = 121
def MJ (c : Nat → HC) (mn mc : Int) (b sv dv im kp : List Int) (h' : MH) : Prop := ∃ sm om ga mr ma ax v fa gr ng wy, JL v fa gr ng wy ∧ h' = (z40 c (rf mn mc sm om ga mr ma ax b v sv dv fa gr ng wy im kp))
def MSp (xs : List Int) (m : Nat) (as_ : List MV) (h : MH) (r : MV) (c : Nat → HC) (mn mc : Int) (b sv dv im kp : List Int) : Prop := ∃ h', MJ c mn mc b sv dv im kp h' ∧ Sp xs m as_ h (some r) h'
variable {xs : List Int} {c : Nat → HC} {mn mc sm om ga mr ma ax : Int} {b v sv dv fa gr ng wy im kp : List Int}
theorem mj {v fa gr ng wy : List Int} (hJ : JL v fa gr ng wy) : MJ c mn mc b sv dv im kp (z40 c (rf mn mc sm om ga mr ma ax b v sv dv fa gr ng wy im kp)) := ⟨sm, om, ga, mr, ma, ax, v, fa, gr, ng, wy, hJ, rfl⟩
theorem jl_v {u : List Int} (hJ : JL v fa gr ng wy) (hu : u.length = 21) : JL u fa gr ng wy := ⟨hu, hJ.2⟩
theorem zr_O : (z40 c (rf mn mc sm om ga mr ma ax b v sv dv fa gr ng wy im kp))[40]? = some (mob mn mc sm om ga mr ma ax) := rfl
theorem zr_B : (z40 c (rf mn mc sm om ga mr ma ax b v sv dv fa gr ng wy im kp))[41]? = some (.inr (0, b)) := rfl
theorem zr_N : (z40 c (rf mn mc sm om ga mr ma ax b v sv dv fa gr ng wy im kp))[42]? = some (.inr (0, v)) := rfl
theorem zr_S : (z40 c (rf mn mc sm om ga mr ma ax b v sv dv fa gr ng wy im kp))[43]? = some (.inr (0, sv)) := rfl
theorem zr_D : (z40 c (rf mn mc sm om ga mr ma ax b v sv dv fa gr ng wy im kp))[44]? = some (.inr (0, dv)) := rfl
theorem zr_F : (z40 c (rf mn mc sm om ga mr ma ax b v sv dv fa gr ng wy im kp))[45]? = some (.inr (0, fa)) := rfl
theorem zr_G : (z40 c (rf mn mc sm om ga mr ma ax b v sv dv fa gr ng wy im kp))[46]? = some (.inr (0, gr)) := rfl
theorem zr_H : (z40 c (rf mn mc sm om ga mr ma ax b v sv dv fa gr ng wy im kp))[47]? = some (.inr (0, ng)) := rfl
theorem zr_W : (z40 c (rf mn mc sm om ga mr ma ax b v sv dv fa gr ng wy im kp))[48]? = some (.inr (1, wy)) := rfl
theorem zr_I : (z40 c (rf mn mc sm om ga mr ma ax b v sv dv fa gr ng wy im kp))[49]? = some (.inr (0, im)) := rfl
theorem zr_K : (z40 c (rf mn mc sm om ga mr ma ax b v sv dv fa gr ng wy im kp))[50]? = some (.inr (2, kp)) := rfl
theorem sp_asN (lb : b.length = 21) (lv : v.length = 21) : Sp xs m_M_asNow [vR 40] (z40 c (rf mn mc sm om ga mr ma ax b v sv dv fa gr ng wy im kp)) none (z40 c (rf mn mc sm om (-6) mr ma ax b b sv dv fa gr ng wy im kp)) := sp_M_asNow zr_O zr_B zr_N lb lv
theorem sp_M_slide {r y : Int} (hJ : JL v fa gr ng wy) (hw : WF b) (hr : inR r) (hy : inR y) : MSp xs m_M_slide [vR 40, vI r, vI y] (z40 c (rf mn mc sm om ga mr ma ax b v sv dv fa gr ng wy im kp)) (vI (slA b r y)) c mn mc (slW b r y) sv dv im kp := by
  refine ⟨(z40 c (rf mn mc sm om ga mr ma ax (slW b r y) v sv dv fa gr ng wy im kp)), mj hJ, ?_⟩
  unfold slA slW
  have hwd := fun (a : 0 ≤ r) (b : r < 8) => wid_bd a b
  refine en_M_slide ?_
  refine r_iload_n cd_M_slide_0 rfl ?_
  refine r_cv1 cd_M_slide_1 rfl ck_M_slide_M_isRod rfl (Nat.le_of_ble_eq_true rfl) (sp_M_isRod hr) ?_
  refine r_ifne_p cd_M_slide_4 (fun c_4 => ?_) (fun c_4 => ?_)
  · skip
    refine r_iload_n cd_M_slide_9 rfl ?_
    refine r_iconst cd_M_slide_10 ?_
    refine r_iload_n cd_M_slide_11 rfl ?_
    refine r_cv1 cd_M_slide_12 rfl ck_M_slide_M_widest rfl (Nat.le_of_ble_eq_true rfl) (sp_M_widest c_4.1 c_4.2) ?_
    refine r_cv3 cd_M_slide_15 rfl ck_M_slide_M_in rfl (Nat.le_of_ble_eq_true rfl) (sp_M_in hy ⟨by decide, by decide⟩ (by have := hwd c_4.1 c_4.2; constructor <;> omega)) ?_
    refine r_ifne_p cd_M_slide_18 (fun c_18 => ?_) (fun c_18 => ?_)
    · skip
      refine r_aload_n cd_M_slide_24 rfl ?_
      refine r_getfield cd_M_slide_25 zr_O rfl ?_
      refine r_iload_n cd_M_slide_28 rfl ?_
      refine r_iaload (N := 21) cd_M_slide_29 zr_B (wlen hw) (by omega) (by omega) (by omega) ?_
      refine r_istoren4_3 cd_M_slide_30 rfl ?_
      refine r_aload_n cd_M_slide_31 rfl ?_
      refine r_getfield cd_M_slide_32 zr_O rfl ?_
      refine r_iload_n cd_M_slide_35 rfl ?_
      refine r_iload_n cd_M_slide_36 rfl ?_
      refine r_iastore (N := 21) cd_M_slide_37 zr_B (wlen hw) (by omega) (by omega) (by omega) ?_
      refine r_iload_n cd_M_slide_38 rfl ?_
      exact r_iret cd_M_slide_39 rt_M_slide (by rw [if_pos c_4, if_pos c_18]) (by rw [if_pos ⟨c_4, c_18⟩]; rfl)
    · skip
      refine r_bipush cd_M_slide_21 ?_
      exact r_iret cd_M_slide_23 rt_M_slide (by rw [if_pos c_4, if_neg c_18]) (by rw [if_neg (fun z => c_18 z.2)])
  · skip
    refine r_iconst cd_M_slide_7 ?_
    exact r_iret cd_M_slide_8 rt_M_slide (by rw [if_neg c_4]) (by rw [if_neg (fun z => c_4 z.1)])
theorem hcn_r {w : List Int} {r : Int} (h0 : 0 ≤ r) (h1 : r < 8) : hcn w (sid r) r = hcn w (sid r) (-1) - at_ w (8 + r) := by
  rcases rod8 h0 h1 with rfl | rfl | rfl | rfl | rfl | rfl | rfl | rfl <;> simp [hcn, hcA, sid] <;> omega
theorem sp_M_hold {r y : Int} (hJ : JL v fa gr ng wy) (hw : WF b) (hr : inR r) (hy : y = 0 ∨ y = 1) : MSp xs m_M_hold [vR 40, vI r, vI y] (z40 c (rf mn mc sm om ga mr ma ax b v sv dv fa gr ng wy im kp)) (vI (hoA b r y)) c mn mc (hoW b r y) sv dv im kp := by
  by_cases z0 : 0 ≤ r ∧ r < 8
  · have hsd := sid_bd z0.1 z0.2
    have hh := hw.2.2.1 r z0.1 z0.2
    have h2 := hcn_2 hw z0.1 z0.2
    have hr2 := hcn_r (w := b) z0.1 z0.2
    have hcb := hcA_bd hw (sid r) r 8 0 (by omega) (by omega)
    have hcu : hcn b (sid r) r = hcA b (sid r) r 8 0 := rfl
    have sA : Sp xs m_M_asNow [vR 40] (z40 c (rf mn mc sm om ga mr ma ax b v sv dv fa gr ng wy im kp)) none (z40 c (rf mn mc sm om (-6) mr ma ax b b sv dv fa gr ng wy im kp)) := sp_asN hw.1 hJ.1
    have sH : Sp xs m_M_held [vR 40, vI (sid r), vI r] (z40 c (rf mn mc sm om (-6) mr ma ax b b sv dv fa gr ng wy im kp)) (some (vI (hcn b (sid r) r))) (z40 c (rf mn mc sm om (-6) mr ma ax b b sv dv fa gr ng wy im kp)) := sp_M_held zr_O zr_N hw ⟨by omega, by omega⟩ ⟨by omega, by omega⟩
    by_cases z1 : y ≠ 0 ∧ at_ b (8 + r) ≠ 1 ∧ 2 ≤ hcn b (sid r) (-1)
    · refine ⟨(z40 c (rf mn mc sm om (-6) mr ma ax (hoW b r y) b sv dv fa gr ng wy im kp)), mj (jl_v hJ hw.1), ?_⟩
      unfold hoA hoW
      rw [if_pos z0, if_pos z1, if_neg (fun z => z.2 z1)]
      refine en_M_hold ?_
      refine r_iload_n cd_M_hold_0 rfl ?_
      refine r_cv1 cd_M_hold_1 rfl ck_M_hold_M_isRod rfl (Nat.le_of_ble_eq_true rfl) (sp_M_isRod hr) ?_
      refine r_ifne_p cd_M_hold_4 (fun c_4 => ?_) (fun c_4 => ?_)
      · skip
        refine r_aload_n cd_M_hold_9 rfl ?_
        refine r_vz0 cd_M_hold_10 rfl ck_M_hold_M_asNow (Nat.le_of_ble_eq_true rfl) zr_O rfl sA ?_
        refine r_iload_n cd_M_hold_13 rfl ?_
        refine r_if_eq cd_M_hold_14 ⟨by omega, by omega⟩ (fun c_14 => ?_) (fun c_14 => ?_)
        · skip
          omega
        · skip
          refine r_aload_n cd_M_hold_17 rfl ?_
          refine r_iload_n cd_M_hold_18 rfl ?_
          refine r_cv1 cd_M_hold_19 rfl ck_M_hold_M_sideOf rfl (Nat.le_of_ble_eq_true rfl) (sp_M_sideOf z0.1 z0.2) ?_
          refine r_iload_n cd_M_hold_22 rfl ?_
          refine r_vv2 cd_M_hold_23 rfl ck_M_hold_M_held (Nat.le_of_ble_eq_true rfl) zr_O rfl sH ?_
          refine r_iconst cd_M_hold_26 ?_
          refine r_icmp_ne cd_M_hold_27 ⟨by omega, by omega⟩ ⟨by decide, by decide⟩ (fun c_27 => ?_) (fun c_27 => ?_)
          · skip
            omega
          · skip
            refine r_bipush cd_M_hold_30 ?_
            exact r_iret cd_M_hold_32 rt_M_hold (by rfl) (by rfl)
      · skip
        refine r_iconst cd_M_hold_7 ?_
        exact absurd z0 c_4
    · have hw2 : WF (setw b (8 + r) y) := by
        have := wf_hoW (w := b) (r := r) hw hy
        unfold hoW at this
        rw [if_pos ⟨z0, z1⟩] at this
        exact this
      have sA2 : Sp xs m_M_asNow [vR 40] (z40 c (rf mn mc sm om (-6) mr ma ax (setw b (8 + r) y) b sv dv fa gr ng wy im kp)) none (z40 c (rf mn mc sm om (-6) mr ma ax (setw b (8 + r) y) (setw b (8 + r) y) sv dv fa gr ng wy im kp)) := sp_asN hw2.1 hw.1
      have sH2 : Sp xs m_M_held [vR 40, vI (sid r), vI (-1)] (z40 c (rf mn mc sm om (-6) mr ma ax (setw b (8 + r) y) (setw b (8 + r) y) sv dv fa gr ng wy im kp)) (some (vI (hcn (setw b (8 + r) y) (sid r) (-1)))) (z40 c (rf mn mc sm om (-6) mr ma ax (setw b (8 + r) y) (setw b (8 + r) y) sv dv fa gr ng wy im kp)) := sp_M_held zr_O zr_N hw2 ⟨by omega, by omega⟩ ⟨by omega, by omega⟩
      refine ⟨(z40 c (rf mn mc sm om (-6) mr ma ax (setw b (8 + r) y) (setw b (8 + r) y) sv dv fa gr ng wy im kp)), ?_, ?_⟩
      · unfold hoW
        rw [if_pos ⟨z0, z1⟩]
        exact mj (jl_v hJ hw2.1)
      unfold hoA
      rw [if_pos z0, if_neg z1]
      have t50 : ∀ x, x = y → Rn xs m_M_hold 50 [vR 40, vI r, vI y] [vI x, vI (8 + r), vR 41] (z40 c (rf mn mc sm om (-6) mr ma ax b b sv dv fa gr ng wy im kp)) (some (vI (hcn (setw b (8 + r) y) (sid r) (-1)))) (z40 c (rf mn mc sm om (-6) mr ma ax (setw b (8 + r) y) (setw b (8 + r) y) sv dv fa gr ng wy im kp)) := by
        intro x hx
        subst hx
        refine r_iastore (N := 21) cd_M_hold_50 zr_B (wlen hw) (by omega) (by omega) (by omega) ?_
        refine r_aload_n cd_M_hold_51 rfl ?_
        refine r_vz0 cd_M_hold_52 rfl ck_M_hold_M_asNow (Nat.le_of_ble_eq_true rfl) (gs_ne (by omega) zr_O) rfl sA2 ?_
        skip
        refine r_aload_n cd_M_hold_55 rfl ?_
        refine r_iload_n cd_M_hold_56 rfl ?_
        refine r_cv1 cd_M_hold_57 rfl ck_M_hold_M_sideOf rfl (Nat.le_of_ble_eq_true rfl) (sp_M_sideOf z0.1 z0.2) ?_
        refine r_iconst cd_M_hold_60 ?_
        refine r_vv2 cd_M_hold_61 rfl ck_M_hold_M_held (Nat.le_of_ble_eq_true rfl) zr_O rfl sH2 ?_
        exact r_iret cd_M_hold_64 rt_M_hold (by rfl) (by rfl)
      refine en_M_hold ?_
      refine r_iload_n cd_M_hold_0 rfl ?_
      refine r_cv1 cd_M_hold_1 rfl ck_M_hold_M_isRod rfl (Nat.le_of_ble_eq_true rfl) (sp_M_isRod hr) ?_
      refine r_ifne_p cd_M_hold_4 (fun c_4 => ?_) (fun c_4 => ?_)
      · skip
        refine r_aload_n cd_M_hold_9 rfl ?_
        refine r_vz0 cd_M_hold_10 rfl ck_M_hold_M_asNow (Nat.le_of_ble_eq_true rfl) zr_O rfl sA ?_
        refine r_iload_n cd_M_hold_13 rfl ?_
        refine r_if_eq cd_M_hold_14 ⟨by omega, by omega⟩ (fun c_14 => ?_) (fun c_14 => ?_)
        · skip
          refine r_aload_n cd_M_hold_33 rfl ?_
          refine r_getfield cd_M_hold_34 zr_O rfl ?_
          refine r_bipush cd_M_hold_37 ?_
          refine r_iload_n cd_M_hold_39 rfl ?_
          refine r_iadd cd_M_hold_40 ?_
          refine r_iload_n cd_M_hold_41 rfl ?_
          refine r_if_eq cd_M_hold_42 ⟨by omega, by omega⟩ (fun c_42 => ?_) (fun c_42 => ?_)
          · skip
            refine r_iconst cd_M_hold_49 ?_
            exact t50 _ (by omega)
          · skip
            refine r_iconst cd_M_hold_45 ?_
            refine r_goto cd_M_hold_46 ?_
            exact t50 _ (by omega)
        · skip
          refine r_aload_n cd_M_hold_17 rfl ?_
          refine r_iload_n cd_M_hold_18 rfl ?_
          refine r_cv1 cd_M_hold_19 rfl ck_M_hold_M_sideOf rfl (Nat.le_of_ble_eq_true rfl) (sp_M_sideOf z0.1 z0.2) ?_
          refine r_iload_n cd_M_hold_22 rfl ?_
          refine r_vv2 cd_M_hold_23 rfl ck_M_hold_M_held (Nat.le_of_ble_eq_true rfl) zr_O rfl sH ?_
          refine r_iconst cd_M_hold_26 ?_
          refine r_icmp_ne cd_M_hold_27 ⟨by omega, by omega⟩ ⟨by decide, by decide⟩ (fun c_27 => ?_) (fun c_27 => ?_)
          · skip
            refine r_aload_n cd_M_hold_33 rfl ?_
            refine r_getfield cd_M_hold_34 zr_O rfl ?_
            refine r_bipush cd_M_hold_37 ?_
            refine r_iload_n cd_M_hold_39 rfl ?_
            refine r_iadd cd_M_hold_40 ?_
            refine r_iload_n cd_M_hold_41 rfl ?_
            refine r_if_eq cd_M_hold_42 ⟨by omega, by omega⟩ (fun c_42 => ?_) (fun c_42 => ?_)
            · skip
              refine r_iconst cd_M_hold_49 ?_
              exact t50 _ (by omega)
            · skip
              refine r_iconst cd_M_hold_45 ?_
              refine r_goto cd_M_hold_46 ?_
              exact t50 _ (by omega)
          · skip
            omega
      · skip
        refine r_iconst cd_M_hold_7 ?_
        exact absurd z0 c_4
  · refine ⟨(z40 c (rf mn mc sm om ga mr ma ax (hoW b r y) v sv dv fa gr ng wy im kp)), mj hJ, ?_⟩
    unfold hoA hoW
    rw [if_neg z0, if_neg (fun z => z0 z.1)]
    refine en_M_hold ?_
    refine r_iload_n cd_M_hold_0 rfl ?_
    refine r_cv1 cd_M_hold_1 rfl ck_M_hold_M_isRod rfl (Nat.le_of_ble_eq_true rfl) (sp_M_isRod hr) ?_
    refine r_ifne_p cd_M_hold_4 (fun c_4 => ?_) (fun c_4 => ?_)
    · skip
      exact absurd c_4 z0
    · skip
      refine r_iconst cd_M_hold_7 ?_
      exact r_iret cd_M_hold_8 rt_M_hold (by rfl) (by rfl)
theorem sp_M_ball {r m : Int} (hJ : JL v fa gr ng wy) (hw : WF b) (hr : inR r) (hm : inR m) : MSp xs m_M_ball [vR 40, vI r, vI m] (z40 c (rf mn mc sm om ga mr ma ax b v sv dv fa gr ng wy im kp)) (vI (baA r m)) c mn mc (baW b r m) sv dv im kp := by
  refine ⟨(z40 c (rf mn mc sm om ga mr ma ax (baW b r m) v sv dv fa gr ng wy im kp)), mj hJ, ?_⟩
  obtain ⟨r1, r2⟩ := id hr
  unfold baA baW
  by_cases z : r = -1
  · skip
    refine en_M_ball ?_
    refine r_iload_n cd_M_ball_0 rfl ?_
    refine r_iconst cd_M_ball_1 ?_
    refine r_icmp_eq cd_M_ball_2 ⟨by omega, by omega⟩ ⟨by decide, by decide⟩ (fun c_2 => ?_) (fun c_2 => ?_)
    · skip
      refine r_aload_n cd_M_ball_15 rfl ?_
      refine r_getfield cd_M_ball_16 zr_O rfl ?_
      refine r_bipush cd_M_ball_19 ?_
      refine r_iload_n cd_M_ball_21 rfl ?_
      refine r_if_ge cd_M_ball_22 ⟨by omega, by omega⟩ (fun c_22 => ?_) (fun c_22 => ?_)
      · skip
        omega
      · skip
        refine r_bipush cd_M_ball_25 ?_
        refine r_goto cd_M_ball_27 ?_
        refine r_iastore (N := 21) cd_M_ball_31 zr_B (wlen hw) (by omega) (by omega) (by omega) ?_
        refine r_aload_n cd_M_ball_32 rfl ?_
        refine r_getfield cd_M_ball_33 (gs_ne (by omega) zr_O) rfl ?_
        refine r_bipush cd_M_ball_36 ?_
        refine r_iload_n cd_M_ball_38 rfl ?_
        refine r_if_ge cd_M_ball_39 ⟨by omega, by omega⟩ (fun c_39 => ?_) (fun c_39 => ?_)
        · skip
          omega
        · skip
          refine r_bipush cd_M_ball_42 ?_
          refine r_goto cd_M_ball_44 ?_
          refine r_iastore (N := 21) cd_M_ball_48 (gs_eq zr_B) (lset (wlen hw)) (by omega) (by omega) (by omega) ?_
          refine r_iconst cd_M_ball_49 ?_
          exact r_iret cd_M_ball_50 rt_M_ball (by rw [if_pos (Or.inl z)]) (by (rw [if_pos z, List.set_set]; rfl))
    · skip
      omega
  · skip
    refine en_M_ball ?_
    refine r_iload_n cd_M_ball_0 rfl ?_
    refine r_iconst cd_M_ball_1 ?_
    refine r_icmp_eq cd_M_ball_2 ⟨by omega, by omega⟩ ⟨by decide, by decide⟩ (fun c_2 => ?_) (fun c_2 => ?_)
    · skip
      refine r_aload_n cd_M_ball_15 rfl ?_
      refine r_getfield cd_M_ball_16 zr_O rfl ?_
      refine r_bipush cd_M_ball_19 ?_
      refine r_iload_n cd_M_ball_21 rfl ?_
      refine r_if_ge cd_M_ball_22 ⟨by omega, by omega⟩ (fun c_22 => ?_) (fun c_22 => ?_)
      · skip
        refine r_iload_n cd_M_ball_30 rfl ?_
        refine r_iastore (N := 21) cd_M_ball_31 zr_B (wlen hw) (by omega) (by omega) (by omega) ?_
        refine r_aload_n cd_M_ball_32 rfl ?_
        refine r_getfield cd_M_ball_33 (gs_ne (by omega) zr_O) rfl ?_
        refine r_bipush cd_M_ball_36 ?_
        refine r_iload_n cd_M_ball_38 rfl ?_
        refine r_if_ge cd_M_ball_39 ⟨by omega, by omega⟩ (fun c_39 => ?_) (fun c_39 => ?_)
        · skip
          refine r_iload_n cd_M_ball_47 rfl ?_
          refine r_iastore (N := 21) cd_M_ball_48 (gs_eq zr_B) (lset (wlen hw)) (by omega) (by omega) (by omega) ?_
          refine r_iconst cd_M_ball_49 ?_
          exact r_iret cd_M_ball_50 rt_M_ball (by first | omega | rw [if_pos (Or.inr c_10)]) (by first | omega | (rw [if_neg z, if_pos c_10, List.set_set]; rfl))
        · skip
          omega
      · skip
        omega
    · skip
      refine r_iload_n cd_M_ball_5 rfl ?_
      refine r_iload_n cd_M_ball_6 rfl ?_
      refine r_cv2 cd_M_ball_7 rfl ck_M_ball_M_isMan rfl (Nat.le_of_ble_eq_true rfl) (sp_M_isMan hr hm) ?_
      refine r_ifne_p cd_M_ball_10 (fun c_10 => ?_) (fun c_10 => ?_)
      · skip
        refine r_aload_n cd_M_ball_15 rfl ?_
        refine r_getfield cd_M_ball_16 zr_O rfl ?_
        refine r_bipush cd_M_ball_19 ?_
        refine r_iload_n cd_M_ball_21 rfl ?_
        refine r_if_ge cd_M_ball_22 ⟨by omega, by omega⟩ (fun c_22 => ?_) (fun c_22 => ?_)
        · skip
          refine r_iload_n cd_M_ball_30 rfl ?_
          refine r_iastore (N := 21) cd_M_ball_31 zr_B (wlen hw) (by omega) (by omega) (by omega) ?_
          refine r_aload_n cd_M_ball_32 rfl ?_
          refine r_getfield cd_M_ball_33 (gs_ne (by omega) zr_O) rfl ?_
          refine r_bipush cd_M_ball_36 ?_
          refine r_iload_n cd_M_ball_38 rfl ?_
          refine r_if_ge cd_M_ball_39 ⟨by omega, by omega⟩ (fun c_39 => ?_) (fun c_39 => ?_)
          · skip
            refine r_iload_n cd_M_ball_47 rfl ?_
            refine r_iastore (N := 21) cd_M_ball_48 (gs_eq zr_B) (lset (wlen hw)) (by omega) (by omega) (by omega) ?_
            refine r_iconst cd_M_ball_49 ?_
            exact r_iret cd_M_ball_50 rt_M_ball (by first | omega | rw [if_pos (Or.inr c_10)]) (by first | omega | (rw [if_neg z, if_pos c_10, List.set_set]; rfl))
          · skip
            omega
        · skip
          omega
      · skip
        refine r_iconst cd_M_ball_13 ?_
        exact r_iret cd_M_ball_14 rt_M_ball (by rw [if_neg (by omega)]) (by rw [if_neg z, if_neg c_10])
theorem sp_M_goals {s y : Int} (hJ : JL v fa gr ng wy) (hw : WF b) (hs : inR s) (hy : inR y) : MSp xs m_M_goals [vR 40, vI s, vI y] (z40 c (rf mn mc sm om ga mr ma ax b v sv dv fa gr ng wy im kp)) (vI (goA b s y)) c mn mc (goW b s y) sv dv im kp := by
  refine ⟨(z40 c (rf mn mc sm om ga mr ma ax (goW b s y) v sv dv fa gr ng wy im kp)), mj hJ, ?_⟩
  obtain ⟨s1, s2⟩ := id hs
  unfold goA goW
  refine en_M_goals ?_
  refine r_iload_n cd_M_goals_0 rfl ?_
  refine r_iconst cd_M_goals_1 ?_
  refine r_iconst cd_M_goals_2 ?_
  refine r_cv3 cd_M_goals_3 rfl ck_M_goals_M_in rfl (Nat.le_of_ble_eq_true rfl) (sp_M_in hs ⟨by decide, by decide⟩ ⟨by decide, by decide⟩) ?_
  refine r_ifne_p cd_M_goals_6 (fun c_6 => ?_) (fun c_6 => ?_)
  · skip
    refine r_iload_n cd_M_goals_11 rfl ?_
    refine r_iconst cd_M_goals_12 ?_
    refine r_bipush cd_M_goals_13 ?_
    refine r_cv3 cd_M_goals_15 rfl ck_M_goals_M_in rfl (Nat.le_of_ble_eq_true rfl) (sp_M_in hy ⟨by decide, by decide⟩ ⟨by decide, by decide⟩) ?_
    refine r_ifne_p cd_M_goals_18 (fun c_18 => ?_) (fun c_18 => ?_)
    · skip
      refine r_aload_n cd_M_goals_24 rfl ?_
      refine r_getfield cd_M_goals_25 zr_O rfl ?_
      refine r_bipush cd_M_goals_28 ?_
      refine r_iload_n cd_M_goals_30 rfl ?_
      refine r_iadd cd_M_goals_31 ?_
      refine r_iaload (N := 21) cd_M_goals_32 zr_B (wlen hw) (by omega) (by omega) (by omega) ?_
      refine r_istoren4_3 cd_M_goals_33 rfl ?_
      refine r_aload_n cd_M_goals_34 rfl ?_
      refine r_getfield cd_M_goals_35 zr_O rfl ?_
      refine r_bipush cd_M_goals_38 ?_
      refine r_iload_n cd_M_goals_40 rfl ?_
      refine r_iadd cd_M_goals_41 ?_
      refine r_iload_n cd_M_goals_42 rfl ?_
      refine r_iastore (N := 21) cd_M_goals_43 zr_B (wlen hw) (by omega) (by omega) (by omega) ?_
      refine r_iload_n cd_M_goals_44 rfl ?_
      exact r_iret cd_M_goals_45 rt_M_goals (by rw [if_pos (by omega), if_pos c_18]) (by rw [if_pos ⟨by omega, c_18⟩]; rfl)
    · skip
      refine r_bipush cd_M_goals_21 ?_
      exact r_iret cd_M_goals_23 rt_M_goals (by rw [if_pos (by omega), if_neg c_18]) (by rw [if_neg (fun z => c_18 z.2)])
  · skip
    refine r_iconst cd_M_goals_9 ?_
    exact r_iret cd_M_goals_10 rt_M_goals (by rw [if_neg (by omega)]) (by rw [if_neg (fun z => c_6 (by omega))])
theorem sp_M_say {s p : Int} (hJ : JL v fa gr ng wy) (hp0 : PdOK dv mc p) (hs : inR s) : MSp xs m_M_say [vR 40, vI s] (z40 c (rf mn mc sm om ga mr ma ax b v sv dv fa gr ng wy im kp)) (vI (syA mc s)) c mn (syN mc s) b sv (syS dv mc s) im kp := by
  refine ⟨(z40 c (rf mn (syN mc s) sm om ga mr ma ax b v sv (syS dv mc s) fa gr ng wy im kp)), mj hJ, ?_⟩
  obtain ⟨p1, p2, p3, p4, p5⟩ := id hp0
  have hl : ((dv.length : Nat) : Int) = 60 := by rw [p1]; rfl
  unfold syA syS syN
  refine en_M_say ?_
  refine r_iload_n cd_M_say_0 rfl ?_
  refine r_bipush cd_M_say_1 ?_
  refine r_bipush cd_M_say_3 ?_
  refine r_cv3 cd_M_say_5 rfl ck_M_say_M_in rfl (Nat.le_of_ble_eq_true rfl) (sp_M_in hs ⟨by decide, by decide⟩ ⟨by decide, by decide⟩) ?_
  refine r_ifne_p cd_M_say_8 (fun c_8 => ?_) (fun c_8 => ?_)
  · skip
    refine r_aload_n cd_M_say_14 rfl ?_
    refine r_getfield cd_M_say_15 zr_O rfl ?_
    refine r_bipush cd_M_say_18 ?_
    refine r_icmp_ne cd_M_say_20 ⟨by omega, by omega⟩ ⟨by decide, by decide⟩ (fun c_20 => ?_) (fun c_20 => ?_)
    · skip
      refine r_aload_n cd_M_say_26 rfl ?_
      refine r_getfield cd_M_say_27 zr_O rfl ?_
      refine r_aload_n cd_M_say_30 rfl ?_
      refine r_getfield cd_M_say_31 zr_O rfl ?_
      refine r_iload_n cd_M_say_34 rfl ?_
      refine r_iastore (N := 60) cd_M_say_35 zr_D hl (by omega) (by omega) (by omega) ?_
      refine r_aload_n cd_M_say_36 rfl ?_
      refine r_dup cd_M_say_37 rfl ?_
      refine r_getfield cd_M_say_38 (gs_ne (by omega) zr_O) rfl ?_
      refine r_iconst cd_M_say_41 ?_
      refine r_iadd cd_M_say_42 ?_
      refine r_putfield cd_M_say_43 (gs_ne (by omega) zr_O) (Nat.le_of_ble_eq_true rfl) rfl ?_
      refine r_aload_n cd_M_say_46 rfl ?_
      refine r_getfield cd_M_say_47 (gs_eq (gs_ne (by omega) zr_O)) rfl ?_
      exact r_iret cd_M_say_50 rt_M_say (by rw [if_pos c_8, if_neg c_20]) (by rw [if_pos ⟨c_8, c_20⟩, if_pos ⟨c_8, c_20⟩]; rfl)
    · skip
      refine r_bipush cd_M_say_23 ?_
      exact r_iret cd_M_say_25 rt_M_say (by rw [if_pos c_8, if_pos c_20]) (by rw [if_neg (fun z => z.2 c_20), if_neg (fun z => z.2 c_20)])
  · skip
    refine r_bipush cd_M_say_11 ?_
    exact r_iret cd_M_say_13 rt_M_say (by rw [if_neg c_8]) (by rw [if_neg (fun z => c_8 z.1), if_neg (fun z => c_8 z.1)])
theorem sp_M_wipe (hJ : JL v fa gr ng wy) : MSp xs m_M_wipe [vR 40] (z40 c (rf mn mc sm om ga mr ma ax b v sv dv fa gr ng wy im kp)) (vI mc) c mn 0 b sv dv im kp := by
  refine ⟨(z40 c (rf mn 0 sm om ga mr ma ax b v sv dv fa gr ng wy im kp)), mj hJ, ?_⟩
  refine en_M_wipe ?_
  refine r_aload_n cd_M_wipe_0 rfl ?_
  refine r_getfield cd_M_wipe_1 zr_O rfl ?_
  refine r_istoren2_1 cd_M_wipe_4 rfl ?_
  refine r_aload_n cd_M_wipe_5 rfl ?_
  refine r_iconst cd_M_wipe_6 ?_
  refine r_putfield cd_M_wipe_7 zr_O (Nat.le_of_ble_eq_true rfl) rfl ?_
  refine r_iload_n cd_M_wipe_10 rfl ?_
  exact r_iret cd_M_wipe_11 rt_M_wipe (by first | rfl | omega | (split <;> first | rfl | omega)) (by rfl)
theorem sp_M_forget (hJ : JL v fa gr ng wy) : MSp xs m_M_forget [vR 40] (z40 c (rf mn mc sm om ga mr ma ax b v sv dv fa gr ng wy im kp)) (vI mn) c 0 mc b sv dv im kp := by
  refine ⟨(z40 c (rf 0 mc sm om ga mr ma ax b v sv dv fa gr ng wy im kp)), mj hJ, ?_⟩
  refine en_M_forget ?_
  refine r_aload_n cd_M_forget_0 rfl ?_
  refine r_getfield cd_M_forget_1 zr_O rfl ?_
  refine r_istoren2_1 cd_M_forget_4 rfl ?_
  refine r_aload_n cd_M_forget_5 rfl ?_
  refine r_iconst cd_M_forget_6 ?_
  refine r_putfield cd_M_forget_7 zr_O (Nat.le_of_ble_eq_true rfl) rfl ?_
  refine r_iload_n cd_M_forget_10 rfl ?_
  exact r_iret cd_M_forget_11 rt_M_forget (by first | rfl | omega | (split <;> first | rfl | omega)) (by rfl)
end C70
