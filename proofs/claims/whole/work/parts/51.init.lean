-- the constructors
section C51
variable {xs : List Int} {h : MH}
def sl0 : List Int := [20, 12, 8, 4, 4, 8, 12, 20]
theorem sl0_at {i : Int} (h0 : 0 ≤ i) (h1 : i < 8) : (wid i).tdiv 2 = at_ sl0 i := by rcases rod8 h0 h1 with rfl | rfl | rfl | rfl | rfl | rfl | rfl | rfl <;> decide
theorem lp_Table_init {t q q2 : Nat} (hn : t ≠ q) : ∀ (k : Nat) (i : Int) (h : MH) (l : List Int), 0 ≤ i → i + k = 8 → h[t]? = some (.inl (6, [vR q, vR q2, vI 0, vI 0, vI 0, vI 0])) → h[q]? = some (.inr (0, l)) → l.length = 8 → (∀ j : Int, 0 ≤ j → j < i → at_ l j = at_ sl0 j) → Rn xs m_Table_init 21 [vR t, vI i] [] h none ((h.set q (.inr (0, sl0))).set t (.inl (6, [vR q, vR q2, vI 0, vI (-6), vI (-6), vI 0]))) := by
  intro k
  induction k with
  | zero =>
    intro i h l i0 i1 qt qq hl e
    have : l = sl0 := ext_at hl rfl (fun j j0 j1 => e j j0 (by omega))
    subst this
    refine r_iload_n cd_Table_init_21 rfl ?_
    refine r_aload_n cd_Table_init_22 rfl ?_
    refine r_getfield cd_Table_init_23 qt rfl ?_
    refine r_arraylength (N := 8) cd_Table_init_26 qq (by rw [hl]; rfl) ?_
    refine r_icmp_ge cd_Table_init_27 ⟨by omega, by omega⟩ ⟨by omega, by omega⟩ (fun c_27 => ?_) (fun c_27 => ?_)
    · skip
      refine r_aload_n cd_Table_init_48 rfl ?_
      refine r_bipush cd_Table_init_49 ?_
      refine r_putfield cd_Table_init_51 qt (Nat.le_of_ble_eq_true rfl) rfl ?_
      refine r_aload_n cd_Table_init_54 rfl ?_
      refine r_bipush cd_Table_init_55 ?_
      refine r_putfield cd_Table_init_57 (gs_eq qt) (Nat.le_of_ble_eq_true rfl) rfl ?_
      exact r_vret cd_Table_init_60 rt_Table_init (by (rw [set_same qq, List.set_set]; rfl))
    · skip
      omega
  | succ k ih =>
    intro i h l i0 i1 qt qq hl e
    have s1 := sp_Rods_lastSlide (xs := xs) (h := h) i0 (by omega : i < 8)
    have hb := wid_bd i0 (by omega : i < 8)
    have e1 := sl0_at i0 (by omega : i < 8)
    have e9 := ih (i + 1) (h.set q (.inr (0, l.set i.toNat (at_ sl0 i)))) (l.set i.toNat (at_ sl0 i)) (by omega) (by omega) (gs_ne (Ne.symm hn) qt) (gs_eq qq) (by rw [List.length_set, hl]) (cp_step i0 (by omega) e)
    rw [List.set_set] at e9
    refine r_iload_n cd_Table_init_21 rfl ?_
    refine r_aload_n cd_Table_init_22 rfl ?_
    refine r_getfield cd_Table_init_23 qt rfl ?_
    refine r_arraylength (N := 8) cd_Table_init_26 qq (by rw [hl]; rfl) ?_
    refine r_icmp_ge cd_Table_init_27 ⟨by omega, by omega⟩ ⟨by omega, by omega⟩ (fun c_27 => ?_) (fun c_27 => ?_)
    · skip
      omega
    · skip
      refine r_aload_n cd_Table_init_30 rfl ?_
      refine r_getfield cd_Table_init_31 qt rfl ?_
      refine r_iload_n cd_Table_init_34 rfl ?_
      refine r_iload_n cd_Table_init_35 rfl ?_
      refine r_cv1 cd_Table_init_36 rfl ck_Table_init_Rods_lastSlide rfl (Nat.le_of_ble_eq_true rfl) s1 ?_
      skip
      refine r_iconst cd_Table_init_39 ?_
      refine r_idiv cd_Table_init_40 ⟨by omega, by omega⟩ ⟨by decide, by decide⟩ (by decide) ?_
      refine r_iastore (N := 8) cd_Table_init_41 qq (by rw [hl]; rfl) (by omega) (by omega) (by omega) ?_
      refine r_iinc2_1 cd_Table_init_42 rfl ?_
      refine r_goto cd_Table_init_45 ?_
      (rw [e1]; exact e9)
theorem ga_l {h l : MH} {q : Nat} {c : HC} (hq : h[q]? = some c) : (h ++ l)[q]? = some c := by
  rw [List.getElem?_append_left (List.getElem?_eq_some_iff.mp hq).1]
  exact hq
theorem ga_e {h l : MH} {c : HC} : (h ++ c :: l)[h.length]? = some c := by
  rw [List.getElem?_append_right (Nat.le_refl _), Nat.sub_self]
  rfl
theorem sa_0 {h0 l : MH} {c : HC} : (h0 ++ l).set h0.length c = h0 ++ l.set 0 c := by
  rw [List.set_append_right _ _ (Nat.le_refl _), Nat.sub_self]
theorem sa_k {h0 l : MH} {c : HC} {k : Nat} : (h0 ++ l).set (h0.length + k) c = h0 ++ l.set k c := by
  rw [List.set_append_right _ _ (by omega), Nat.add_sub_cancel_left]
theorem ge_0 {h0 l : MH} : (h0 ++ l)[h0.length]? = l[0]? := by
  rw [List.getElem?_append_right (Nat.le_refl _), Nat.sub_self]
theorem ge_k {h0 l : MH} {k : Nat} : (h0 ++ l)[h0.length + k]? = l[k]? := by
  rw [List.getElem?_append_right (by omega), Nat.add_sub_cancel_left]
def w00 : List Int := [20, 12, 8, 4, 4, 8, 12, 20, 0, 0, 0, 0, 0, 0, 0, 0, -6, -6, 0, 0, 0]
theorem sp_Table_init {h0 : MH} : Sp xs m_Table_init [vR h0.length] (h0 ++ [.inl (6, dfC 6)]) none (h0 ++ [tobj h0.length w00, .inr (0, sl0), .inr (0, [0, 0])]) := by
  have hf := lp_Table_init (xs := xs) (t := h0.length) (q := h0.length + 1) (q2 := h0.length + 2) (by omega) 8 0 (h0 ++ [.inl (6, [vR (h0.length + 1), vR (h0.length + 2), vI 0, vI 0, vI 0, vI 0]), .inr (0, [0, 0, 0, 0, 0, 0, 0, 0]), .inr (0, [0, 0])]) [0, 0, 0, 0, 0, 0, 0, 0] (by omega) (by omega) (by rw [ge_0]; rfl) (by rw [ge_k]; rfl) rfl (fun j j0 j1 => by omega)
  rw [sa_k] at hf
  rw [sa_0] at hf
  have t2 : Rn xs m_Table_init 12 [vR h0.length, vU] [] (h0 ++ [.inl (6, (dfC 6).set 0 (vR (h0.length + 1))), .inr (0, [0, 0, 0, 0, 0, 0, 0, 0])]) none (h0 ++ [tobj h0.length w00, .inr (0, sl0), .inr (0, [0, 0])]) := by
    refine r_aload_n cd_Table_init_12 rfl ?_
    refine r_iconst cd_Table_init_13 ?_
    refine r_newarray_int cd_Table_init_14 (by decide) (by decide) ?_
    refine r_putfield cd_Table_init_16 (ga_l (h := h0 ++ [.inl (6, (dfC 6).set 0 (vR (h0.length + 1))), .inr (0, [0, 0, 0, 0, 0, 0, 0, 0])]) (q := h0.length) (c := .inl (6, (dfC 6).set 0 (vR (h0.length + 1)))) (by rw [ge_0]; rfl)) (Nat.le_of_ble_eq_true rfl) rfl ?_
    refine r_iconst cd_Table_init_19 ?_
    refine r_istoren2_1 cd_Table_init_20 rfl ?_
    (rw [List.append_assoc, sa_0]; rw [List.length_append]; exact hf)
  refine en_Table_init ?_
  refine r_aload_n cd_Table_init_0 rfl ?_
  refine r_obj cd_Table_init_1 rfl (by decide +kernel) (by decide +kernel) (Nat.le_of_ble_eq_true rfl) ?_
  refine r_aload_n cd_Table_init_4 rfl ?_
  refine r_bipush cd_Table_init_5 ?_
  refine r_newarray_int cd_Table_init_7 (by decide) (by decide) ?_
  refine r_putfield cd_Table_init_9 (ga_l (h := h0 ++ [.inl (6, dfC 6)]) (q := h0.length) (c := .inl (6, dfC 6)) (by rw [ge_0]; rfl)) (Nat.le_of_ble_eq_true rfl) rfl ?_
  (rw [List.append_assoc, sa_0]; rw [List.length_append]; exact t2)
theorem sp_Pad_init {h0 : MH} : Sp xs m_Pad_init [vR h0.length] (h0 ++ [.inl (3, dfC 3)]) none (h0 ++ [pobj h0.length 0 0 0 0 0, .inr (0, List.replicate 60 0)]) := by
  refine en_Pad_init ?_
  refine r_aload_n cd_Pad_init_0 rfl ?_
  refine r_obj cd_Pad_init_1 rfl (by decide +kernel) (by decide +kernel) (Nat.le_of_ble_eq_true rfl) ?_
  refine r_aload_n cd_Pad_init_4 rfl ?_
  refine r_bipush cd_Pad_init_5 ?_
  refine r_newarray_int cd_Pad_init_7 (by decide) (by decide) ?_
  refine r_putfield cd_Pad_init_9 (ga_l (h := h0 ++ [.inl (3, dfC 3)]) (q := h0.length) (c := .inl (3, dfC 3)) (by rw [ge_0]; rfl)) (Nat.le_of_ble_eq_true rfl) rfl ?_
  exact r_vret cd_Pad_init_12 rt_Pad_init (by (rw [List.append_assoc, sa_0]; rw [List.length_append]; rfl))
theorem sp_Passes_init {h0 : MH} : Sp xs m_Passes_init [vR h0.length] (h0 ++ [.inl (4, dfC 4)]) none (h0 ++ [.inl (4, [vR (h0.length + 1)]), .inr (0, List.replicate 80 0)]) := by
  refine en_Passes_init ?_
  refine r_aload_n cd_Passes_init_0 rfl ?_
  refine r_obj cd_Passes_init_1 rfl (by decide +kernel) (by decide +kernel) (Nat.le_of_ble_eq_true rfl) ?_
  refine r_aload_n cd_Passes_init_4 rfl ?_
  refine r_bipush cd_Passes_init_5 ?_
  refine r_newarray_int cd_Passes_init_7 (by decide) (by decide) ?_
  refine r_putfield cd_Passes_init_9 (ga_l (h := h0 ++ [.inl (4, dfC 4)]) (q := h0.length) (c := .inl (4, dfC 4)) (by rw [ge_0]; rfl)) (Nat.le_of_ble_eq_true rfl) rfl ?_
  exact r_vret cd_Passes_init_12 rt_Passes_init (by (rw [List.append_assoc, sa_0]; rw [List.length_append]; rfl))
theorem sp_Evening_init {h0 : MH} : Sp xs m_Evening_init [vR h0.length] (h0 ++ [.inl (1, dfC 1)]) none (h0 ++ [.inl (1, [vR (h0.length + 1), vI 0, vI 0, vI 0, vI 0]), tobj (h0.length + 1) w00, .inr (0, sl0), .inr (0, [0, 0])]) := by
  have s1 := sp_Table_init (xs := xs) (h0 := h0 ++ [.inl (1, dfC 1)])
  refine en_Evening_init ?_
  refine r_aload_n cd_Evening_init_0 rfl ?_
  refine r_obj cd_Evening_init_1 rfl (by decide +kernel) (by decide +kernel) (Nat.le_of_ble_eq_true rfl) ?_
  refine r_aload_n cd_Evening_init_4 rfl ?_
  refine r_new cd_Evening_init_5 ?_
  refine r_dup cd_Evening_init_8 rfl ?_
  refine r_vz0 cd_Evening_init_9 rfl ck_Evening_init_Table_init (Nat.le_of_ble_eq_true rfl) ga_e rfl s1 ?_
  refine r_putfield cd_Evening_init_12 (ga_l (h := h0 ++ [.inl (1, dfC 1)]) (q := h0.length) (c := .inl (1, dfC 1)) (by rw [ge_0]; rfl)) (Nat.le_of_ble_eq_true rfl) rfl ?_
  exact r_vret cd_Evening_init_15 rt_Evening_init (by (rw [List.append_assoc, sa_0]; rw [List.length_append]; rfl))
theorem sp_Defence_init {h0 : MH} : Sp xs m_Defence_init [vR h0.length] (h0 ++ [.inl (0, dfC 0)]) none (h0 ++ [.inl (0, [vR (h0.length + 1), vR (h0.length + 4), vI 0, vI 0]), tobj (h0.length + 1) w00, .inr (0, sl0), .inr (0, [0, 0]), .inr (0, List.replicate 41 0)]) := by
  have s1 := sp_Table_init (xs := xs) (h0 := h0 ++ [.inl (0, dfC 0)])
  have t2 : Rn xs m_Defence_init 15 [vR h0.length] [] (h0 ++ [.inl (0, (dfC 0).set 0 (vR (h0.length + 1))), tobj (h0.length + 1) w00, .inr (0, sl0), .inr (0, [0, 0])]) none (h0 ++ [.inl (0, [vR (h0.length + 1), vR (h0.length + 4), vI 0, vI 0]), tobj (h0.length + 1) w00, .inr (0, sl0), .inr (0, [0, 0]), .inr (0, List.replicate 41 0)]) := by
    refine r_aload_n cd_Defence_init_15 rfl ?_
    refine r_bipush cd_Defence_init_16 ?_
    refine r_newarray_int cd_Defence_init_18 (by decide) (by decide) ?_
    refine r_putfield cd_Defence_init_20 (ga_l (c := .inl (0, (dfC 0).set 0 (vR (h0.length + 1)))) (by rw [ge_0]; rfl)) (Nat.le_of_ble_eq_true rfl) rfl ?_
    exact r_vret cd_Defence_init_23 rt_Defence_init (by (rw [List.append_assoc, sa_0]; rw [List.length_append]; rfl))
  refine en_Defence_init ?_
  refine r_aload_n cd_Defence_init_0 rfl ?_
  refine r_obj cd_Defence_init_1 rfl (by decide +kernel) (by decide +kernel) (Nat.le_of_ble_eq_true rfl) ?_
  refine r_aload_n cd_Defence_init_4 rfl ?_
  refine r_new cd_Defence_init_5 ?_
  refine r_dup cd_Defence_init_8 rfl ?_
  refine r_vz0 cd_Defence_init_9 rfl ck_Defence_init_Table_init (Nat.le_of_ble_eq_true rfl) ga_e rfl s1 ?_
  refine r_putfield cd_Defence_init_12 (ga_l (h := h0 ++ [.inl (0, dfC 0)]) (q := h0.length) (c := .inl (0, dfC 0)) (by rw [ge_0]; rfl)) (Nat.le_of_ble_eq_true rfl) rfl ?_
  (rw [List.append_assoc, sa_0]; rw [List.length_append]; exact t2)
theorem sp_Sights_init {h0 : MH} : Sp xs m_Sights_init [vR h0.length] (h0 ++ [.inl (5, dfC 5)]) none (h0 ++ [sobj h0.length 0 0, .inr (0, List.replicate 8 0), .inr (0, List.replicate 8 0), .inr (0, List.replicate 30 0)]) := by
  have t3 : Rn xs m_Sights_init 20 [vR h0.length] [] (h0 ++ [.inl (5, ((dfC 5).set 0 (vR (h0.length + 1))).set 1 (vR (h0.length + 2))), .inr (0, List.replicate 8 0), .inr (0, List.replicate 8 0)]) none (h0 ++ [sobj h0.length 0 0, .inr (0, List.replicate 8 0), .inr (0, List.replicate 8 0), .inr (0, List.replicate 30 0)]) := by
    refine r_aload_n cd_Sights_init_20 rfl ?_
    refine r_bipush cd_Sights_init_21 ?_
    refine r_newarray_int cd_Sights_init_23 (by decide) (by decide) ?_
    refine r_putfield cd_Sights_init_25 (ga_l (c := .inl (5, ((dfC 5).set 0 (vR (h0.length + 1))).set 1 (vR (h0.length + 2)))) (by rw [ge_0]; rfl)) (Nat.le_of_ble_eq_true rfl) rfl ?_
    exact r_vret cd_Sights_init_28 rt_Sights_init (by (rw [List.append_assoc, sa_0]; rw [List.length_append]; rfl))
  have t2 : Rn xs m_Sights_init 12 [vR h0.length] [] (h0 ++ [.inl (5, (dfC 5).set 0 (vR (h0.length + 1))), .inr (0, List.replicate 8 0)]) none (h0 ++ [sobj h0.length 0 0, .inr (0, List.replicate 8 0), .inr (0, List.replicate 8 0), .inr (0, List.replicate 30 0)]) := by
    refine r_aload_n cd_Sights_init_12 rfl ?_
    refine r_bipush cd_Sights_init_13 ?_
    refine r_newarray_int cd_Sights_init_15 (by decide) (by decide) ?_
    refine r_putfield cd_Sights_init_17 (ga_l (c := .inl (5, (dfC 5).set 0 (vR (h0.length + 1)))) (by rw [ge_0]; rfl)) (Nat.le_of_ble_eq_true rfl) rfl ?_
    (rw [List.append_assoc, sa_0]; rw [List.length_append]; exact t3)
  refine en_Sights_init ?_
  refine r_aload_n cd_Sights_init_0 rfl ?_
  refine r_obj cd_Sights_init_1 rfl (by decide +kernel) (by decide +kernel) (Nat.le_of_ble_eq_true rfl) ?_
  refine r_aload_n cd_Sights_init_4 rfl ?_
  refine r_bipush cd_Sights_init_5 ?_
  refine r_newarray_int cd_Sights_init_7 (by decide) (by decide) ?_
  refine r_putfield cd_Sights_init_9 (ga_l (h := h0 ++ [.inl (5, dfC 5)]) (q := h0.length) (c := .inl (5, dfC 5)) (by rw [ge_0]; rfl)) (Nat.le_of_ble_eq_true rfl) rfl ?_
  (rw [List.append_assoc, sa_0]; rw [List.length_append]; exact t2)
theorem sp_Image_init {h0 : MH} : Sp xs m_Image_init [vR h0.length] (h0 ++ [.inl (2, dfC 2)]) none (h0 ++ [iobj h0.length 0, tobj (h0.length + 1) w00, .inr (0, sl0), .inr (0, [0, 0]), sobj (h0.length + 4) 0 0, .inr (0, List.replicate 8 0), .inr (0, List.replicate 8 0), .inr (0, List.replicate 30 0)]) := by
  have s1 := sp_Table_init (xs := xs) (h0 := h0 ++ [.inl (2, dfC 2)])
  have s2 := sp_Sights_init (xs := xs) (h0 := h0 ++ [.inl (2, (dfC 2).set 0 (vR (h0.length + 1))), tobj (h0.length + 1) w00, .inr (0, sl0), .inr (0, [0, 0])])
  have t2 : Rn xs m_Image_init 15 [vR h0.length] [] (h0 ++ [.inl (2, (dfC 2).set 0 (vR (h0.length + 1))), tobj (h0.length + 1) w00, .inr (0, sl0), .inr (0, [0, 0])]) none (h0 ++ [iobj h0.length 0, tobj (h0.length + 1) w00, .inr (0, sl0), .inr (0, [0, 0]), sobj (h0.length + 4) 0 0, .inr (0, List.replicate 8 0), .inr (0, List.replicate 8 0), .inr (0, List.replicate 30 0)]) := by
    refine r_aload_n cd_Image_init_15 rfl ?_
    refine r_new cd_Image_init_16 ?_
    refine r_dup cd_Image_init_19 rfl ?_
    refine r_vz0 cd_Image_init_20 rfl ck_Image_init_Sights_init (Nat.le_of_ble_eq_true rfl) ga_e rfl s2 ?_
    refine r_putfield cd_Image_init_23 (ga_l (c := .inl (2, (dfC 2).set 0 (vR (h0.length + 1)))) (by rw [ge_0]; rfl)) (Nat.le_of_ble_eq_true rfl) rfl ?_
    exact r_vret cd_Image_init_26 rt_Image_init (by (rw [List.append_assoc, sa_0]; rw [List.length_append]; rfl))
  refine en_Image_init ?_
  refine r_aload_n cd_Image_init_0 rfl ?_
  refine r_obj cd_Image_init_1 rfl (by decide +kernel) (by decide +kernel) (Nat.le_of_ble_eq_true rfl) ?_
  refine r_aload_n cd_Image_init_4 rfl ?_
  refine r_new cd_Image_init_5 ?_
  refine r_dup cd_Image_init_8 rfl ?_
  refine r_vz0 cd_Image_init_9 rfl ck_Image_init_Table_init (Nat.le_of_ble_eq_true rfl) ga_e rfl s1 ?_
  refine r_putfield cd_Image_init_12 (ga_l (h := h0 ++ [.inl (2, dfC 2)]) (q := h0.length) (c := .inl (2, dfC 2)) (by rw [ge_0]; rfl)) (Nat.le_of_ble_eq_true rfl) rfl ?_
  (rw [List.append_assoc, sa_0]; rw [List.length_append]; exact t2)
end C51
