-- a new FourRods
section C52
variable {xs : List Int}
def nH0 : MH := [.inl (7, dfC 7)]
def nH1 : MH := [.inl (7, (dfC 7).set 0 (vR 1)), tobj 1 w00, .inr (0, sl0), .inr (0, [0, 0])]
def nH2 : MH := [.inl (7, ((dfC 7).set 0 (vR 1)).set 1 (vR 4)), tobj 1 w00, .inr (0, sl0), .inr (0, [0, 0]), pobj 4 0 0 0 0 0, .inr (0, List.replicate 60 0)]
def nH3 : MH := [.inl (7, (((dfC 7).set 0 (vR 1)).set 1 (vR 4)).set 2 (vR 6)), tobj 1 w00, .inr (0, sl0), .inr (0, [0, 0]), pobj 4 0 0 0 0 0, .inr (0, List.replicate 60 0), eobj 0 0 0 0, tobj 7 w00, .inr (0, sl0), .inr (0, [0, 0])]
def nH4 : MH := [.inl (7, ((((dfC 7).set 0 (vR 1)).set 1 (vR 4)).set 2 (vR 6)).set 3 (vR 10)), tobj 1 w00, .inr (0, sl0), .inr (0, [0, 0]), pobj 4 0 0 0 0 0, .inr (0, List.replicate 60 0), eobj 0 0 0 0, tobj 7 w00, .inr (0, sl0), .inr (0, [0, 0]), .inl (4, [vR 11]), .inr (0, List.replicate 80 0)]
def nH5 : MH := [.inl (7, (((((dfC 7).set 0 (vR 1)).set 1 (vR 4)).set 2 (vR 6)).set 3 (vR 10)).set 4 (vR 12)), tobj 1 w00, .inr (0, sl0), .inr (0, [0, 0]), pobj 4 0 0 0 0 0, .inr (0, List.replicate 60 0), eobj 0 0 0 0, tobj 7 w00, .inr (0, sl0), .inr (0, [0, 0]), .inl (4, [vR 11]), .inr (0, List.replicate 80 0), dobj 0 0, tobj 13 w00, .inr (0, sl0), .inr (0, [0, 0]), .inr (0, List.replicate 41 0)]
def nH6 : MH := [.inl (7, ((((((dfC 7).set 0 (vR 1)).set 1 (vR 4)).set 2 (vR 6)).set 3 (vR 10)).set 4 (vR 12)).set 5 (vR 17)), tobj 1 w00, .inr (0, sl0), .inr (0, [0, 0]), pobj 4 0 0 0 0 0, .inr (0, List.replicate 60 0), eobj 0 0 0 0, tobj 7 w00, .inr (0, sl0), .inr (0, [0, 0]), .inl (4, [vR 11]), .inr (0, List.replicate 80 0), dobj 0 0, tobj 13 w00, .inr (0, sl0), .inr (0, [0, 0]), .inr (0, List.replicate 41 0), sobj 17 0 0, .inr (0, List.replicate 8 0), .inr (0, List.replicate 8 0), .inr (0, List.replicate 30 0)]
def nH7 : MH := [.inl (7, (((((((dfC 7).set 0 (vR 1)).set 1 (vR 4)).set 2 (vR 6)).set 3 (vR 10)).set 4 (vR 12)).set 5 (vR 17)).set 6 (vR 21)), tobj 1 w00, .inr (0, sl0), .inr (0, [0, 0]), pobj 4 0 0 0 0 0, .inr (0, List.replicate 60 0), eobj 0 0 0 0, tobj 7 w00, .inr (0, sl0), .inr (0, [0, 0]), .inl (4, [vR 11]), .inr (0, List.replicate 80 0), dobj 0 0, tobj 13 w00, .inr (0, sl0), .inr (0, [0, 0]), .inr (0, List.replicate 41 0), sobj 17 0 0, .inr (0, List.replicate 8 0), .inr (0, List.replicate 8 0), .inr (0, List.replicate 30 0), iobj 21 0, tobj 22 w00, .inr (0, sl0), .inr (0, [0, 0]), sobj 25 0 0, .inr (0, List.replicate 8 0), .inr (0, List.replicate 8 0), .inr (0, List.replicate 30 0)]
def nH8 : MH := [.inl (7, ((((((((dfC 7).set 0 (vR 1)).set 1 (vR 4)).set 2 (vR 6)).set 3 (vR 10)).set 4 (vR 12)).set 5 (vR 17)).set 6 (vR 21)).set 7 (vR 29)), tobj 1 w00, .inr (0, sl0), .inr (0, [0, 0]), pobj 4 0 0 0 0 0, .inr (0, List.replicate 60 0), eobj 0 0 0 0, tobj 7 w00, .inr (0, sl0), .inr (0, [0, 0]), .inl (4, [vR 11]), .inr (0, List.replicate 80 0), dobj 0 0, tobj 13 w00, .inr (0, sl0), .inr (0, [0, 0]), .inr (0, List.replicate 41 0), sobj 17 0 0, .inr (0, List.replicate 8 0), .inr (0, List.replicate 8 0), .inr (0, List.replicate 30 0), iobj 21 0, tobj 22 w00, .inr (0, sl0), .inr (0, [0, 0]), sobj 25 0 0, .inr (0, List.replicate 8 0), .inr (0, List.replicate 8 0), .inr (0, List.replicate 30 0), iobj 29 0, tobj 30 w00, .inr (0, sl0), .inr (0, [0, 0]), sobj 33 0 0, .inr (0, List.replicate 8 0), .inr (0, List.replicate 8 0), .inr (0, List.replicate 30 0)]
def nH9 : MH := [.inl (7, (((((((((dfC 7).set 0 (vR 1)).set 1 (vR 4)).set 2 (vR 6)).set 3 (vR 10)).set 4 (vR 12)).set 5 (vR 17)).set 6 (vR 21)).set 7 (vR 29)).set 8 (vR 37)), tobj 1 w00, .inr (0, sl0), .inr (0, [0, 0]), pobj 4 0 0 0 0 0, .inr (0, List.replicate 60 0), eobj 0 0 0 0, tobj 7 w00, .inr (0, sl0), .inr (0, [0, 0]), .inl (4, [vR 11]), .inr (0, List.replicate 80 0), dobj 0 0, tobj 13 w00, .inr (0, sl0), .inr (0, [0, 0]), .inr (0, List.replicate 41 0), sobj 17 0 0, .inr (0, List.replicate 8 0), .inr (0, List.replicate 8 0), .inr (0, List.replicate 30 0), iobj 21 0, tobj 22 w00, .inr (0, sl0), .inr (0, [0, 0]), sobj 25 0 0, .inr (0, List.replicate 8 0), .inr (0, List.replicate 8 0), .inr (0, List.replicate 30 0), iobj 29 0, tobj 30 w00, .inr (0, sl0), .inr (0, [0, 0]), sobj 33 0 0, .inr (0, List.replicate 8 0), .inr (0, List.replicate 8 0), .inr (0, List.replicate 30 0), tobj 37 w00, .inr (0, sl0), .inr (0, [0, 0])]
theorem nF8 : Rn xs m_F_init 92 [vR 0] [] nH8 none nH9 := by
  have s1 := sp_Table_init (xs := xs) (h0 := nH8)
  refine r_aload_n cd_F_init_92 rfl ?_
  refine r_new cd_F_init_93 ?_
  refine r_dup cd_F_init_96 rfl ?_
  refine r_vz0 cd_F_init_97 rfl ck_F_init_Table_init (Nat.le_of_ble_eq_true rfl) ga_e rfl s1 ?_
  refine r_putfield cd_F_init_100 (ga_l (h := nH8) (q := 0) (c := .inl (7, ((((((((dfC 7).set 0 (vR 1)).set 1 (vR 4)).set 2 (vR 6)).set 3 (vR 10)).set 4 (vR 12)).set 5 (vR 17)).set 6 (vR 21)).set 7 (vR 29))) rfl) (Nat.le_of_ble_eq_true rfl) rfl ?_
  exact r_vret cd_F_init_103 rt_F_init (by rfl)
theorem nF7 : Rn xs m_F_init 81 [vR 0] [] nH7 none nH9 := by
  have s1 := sp_Image_init (xs := xs) (h0 := nH7)
  refine r_aload_n cd_F_init_81 rfl ?_
  refine r_new cd_F_init_82 ?_
  refine r_dup cd_F_init_85 rfl ?_
  refine r_vz0 cd_F_init_86 rfl ck_F_init_Image_init (Nat.le_of_ble_eq_true rfl) ga_e rfl s1 ?_
  refine r_putfield cd_F_init_89 (ga_l (h := nH7) (q := 0) (c := .inl (7, (((((((dfC 7).set 0 (vR 1)).set 1 (vR 4)).set 2 (vR 6)).set 3 (vR 10)).set 4 (vR 12)).set 5 (vR 17)).set 6 (vR 21))) rfl) (Nat.le_of_ble_eq_true rfl) rfl ?_
  exact nF8
theorem nF6 : Rn xs m_F_init 70 [vR 0] [] nH6 none nH9 := by
  have s1 := sp_Image_init (xs := xs) (h0 := nH6)
  refine r_aload_n cd_F_init_70 rfl ?_
  refine r_new cd_F_init_71 ?_
  refine r_dup cd_F_init_74 rfl ?_
  refine r_vz0 cd_F_init_75 rfl ck_F_init_Image_init (Nat.le_of_ble_eq_true rfl) ga_e rfl s1 ?_
  refine r_putfield cd_F_init_78 (ga_l (h := nH6) (q := 0) (c := .inl (7, ((((((dfC 7).set 0 (vR 1)).set 1 (vR 4)).set 2 (vR 6)).set 3 (vR 10)).set 4 (vR 12)).set 5 (vR 17))) rfl) (Nat.le_of_ble_eq_true rfl) rfl ?_
  exact nF7
theorem nF5 : Rn xs m_F_init 59 [vR 0] [] nH5 none nH9 := by
  have s1 := sp_Sights_init (xs := xs) (h0 := nH5)
  refine r_aload_n cd_F_init_59 rfl ?_
  refine r_new cd_F_init_60 ?_
  refine r_dup cd_F_init_63 rfl ?_
  refine r_vz0 cd_F_init_64 rfl ck_F_init_Sights_init (Nat.le_of_ble_eq_true rfl) ga_e rfl s1 ?_
  refine r_putfield cd_F_init_67 (ga_l (h := nH5) (q := 0) (c := .inl (7, (((((dfC 7).set 0 (vR 1)).set 1 (vR 4)).set 2 (vR 6)).set 3 (vR 10)).set 4 (vR 12))) rfl) (Nat.le_of_ble_eq_true rfl) rfl ?_
  exact nF6
theorem nF4 : Rn xs m_F_init 48 [vR 0] [] nH4 none nH9 := by
  have s1 := sp_Defence_init (xs := xs) (h0 := nH4)
  refine r_aload_n cd_F_init_48 rfl ?_
  refine r_new cd_F_init_49 ?_
  refine r_dup cd_F_init_52 rfl ?_
  refine r_vz0 cd_F_init_53 rfl ck_F_init_Defence_init (Nat.le_of_ble_eq_true rfl) ga_e rfl s1 ?_
  refine r_putfield cd_F_init_56 (ga_l (h := nH4) (q := 0) (c := .inl (7, ((((dfC 7).set 0 (vR 1)).set 1 (vR 4)).set 2 (vR 6)).set 3 (vR 10))) rfl) (Nat.le_of_ble_eq_true rfl) rfl ?_
  exact nF5
theorem nF3 : Rn xs m_F_init 37 [vR 0] [] nH3 none nH9 := by
  have s1 := sp_Passes_init (xs := xs) (h0 := nH3)
  refine r_aload_n cd_F_init_37 rfl ?_
  refine r_new cd_F_init_38 ?_
  refine r_dup cd_F_init_41 rfl ?_
  refine r_vz0 cd_F_init_42 rfl ck_F_init_Passes_init (Nat.le_of_ble_eq_true rfl) ga_e rfl s1 ?_
  refine r_putfield cd_F_init_45 (ga_l (h := nH3) (q := 0) (c := .inl (7, (((dfC 7).set 0 (vR 1)).set 1 (vR 4)).set 2 (vR 6))) rfl) (Nat.le_of_ble_eq_true rfl) rfl ?_
  exact nF4
theorem nF2 : Rn xs m_F_init 26 [vR 0] [] nH2 none nH9 := by
  have s1 := sp_Evening_init (xs := xs) (h0 := nH2)
  refine r_aload_n cd_F_init_26 rfl ?_
  refine r_new cd_F_init_27 ?_
  refine r_dup cd_F_init_30 rfl ?_
  refine r_vz0 cd_F_init_31 rfl ck_F_init_Evening_init (Nat.le_of_ble_eq_true rfl) ga_e rfl s1 ?_
  refine r_putfield cd_F_init_34 (ga_l (h := nH2) (q := 0) (c := .inl (7, ((dfC 7).set 0 (vR 1)).set 1 (vR 4))) rfl) (Nat.le_of_ble_eq_true rfl) rfl ?_
  exact nF3
theorem nF1 : Rn xs m_F_init 15 [vR 0] [] nH1 none nH9 := by
  have s1 := sp_Pad_init (xs := xs) (h0 := nH1)
  refine r_aload_n cd_F_init_15 rfl ?_
  refine r_new cd_F_init_16 ?_
  refine r_dup cd_F_init_19 rfl ?_
  refine r_vz0 cd_F_init_20 rfl ck_F_init_Pad_init (Nat.le_of_ble_eq_true rfl) ga_e rfl s1 ?_
  refine r_putfield cd_F_init_23 (ga_l (h := nH1) (q := 0) (c := .inl (7, (dfC 7).set 0 (vR 1))) rfl) (Nat.le_of_ble_eq_true rfl) rfl ?_
  exact nF2
theorem nF0 : Rn xs m_F_init 4 [vR 0] [] nH0 none nH9 := by
  have s1 := sp_Table_init (xs := xs) (h0 := nH0)
  refine r_aload_n cd_F_init_4 rfl ?_
  refine r_new cd_F_init_5 ?_
  refine r_dup cd_F_init_8 rfl ?_
  refine r_vz0 cd_F_init_9 rfl ck_F_init_Table_init (Nat.le_of_ble_eq_true rfl) ga_e rfl s1 ?_
  refine r_putfield cd_F_init_12 (ga_l (h := nH0) (q := 0) (c := .inl (7, dfC 7)) rfl) (Nat.le_of_ble_eq_true rfl) rfl ?_
  exact nF1
theorem sp_F_init : Sp xs m_F_init [vR 0] [.inl (7, dfC 7)] none nH9 := by
  refine en_F_init ?_
  refine r_aload_n cd_F_init_0 rfl ?_
  refine r_obj cd_F_init_1 rfl (by decide +kernel) (by decide +kernel) (Nat.le_of_ble_eq_true rfl) ?_
  exact nF0
end C52
