-- seen, forget, fits, ask, year, image, restore, told of the class
section C63
variable {xs : List Int} {w ss : List Int} {cn pl pk pr pn ac st re fg : Int} {we pc : List Int} {li sl : Int} {wt pb sh sd rw : List Int} {sn fd i1 : Int} {w1 sh1 sd1 rw1 : List Int} {sn1 fd1 i2 : Int} {w2 sh2 sd2 rw2 : List Int} {sn2 fd2 : Int} {wd : List Int} {R : MH}
def seA (sn s : Int) : Int := if 0 ≤ s ∧ s ≤ 60 then (if sn = 8 then -4 else sn + 1) else -2
def seH (sh : List Int) (sn s v : Int) : List Int := if (0 ≤ s ∧ s ≤ 60) ∧ sn ≠ 8 then sh.set sn.toNat v else sh
def seN (sn s : Int) : Int := if (0 ≤ s ∧ s ≤ 60) ∧ sn ≠ 8 then sn + 1 else sn
theorem se_ok {s v : Int} (hO : SgOK sh sd rw sn fd) (hv : v = 0 ∨ v = 1) : SgOK (seH sh sn s s) (seH sd sn s v) rw (seN sn s) fd := by
  obtain ⟨a1, a2, a3, a4, a5, a6, a7, a8⟩ := hO
  unfold seH seN
  by_cases z : (0 ≤ s ∧ s ≤ 60) ∧ sn ≠ 8
  · rw [if_pos z, if_pos z, if_pos z]
    refine ⟨by rw [List.length_set]; exact a1, by rw [List.length_set]; exact a2, a3, by omega, fun j j0 j1 => ?_, fun j j0 j1 => ?_, a7, a8⟩
    · rw [az_set a4.1 (by omega) j0]
      split
      · exact z.1
      · exact a5 j j0 j1
    · rw [az_set a4.1 (by omega) j0]
      split
      · exact hv
      · exact a6 j j0 j1
  · rw [if_neg z, if_neg z, if_neg z]
    exact ⟨a1, a2, a3, a4, a5, a6, a7, a8⟩
theorem sp_F_seen {s v : Int} (hO : SgOK sh sd rw sn fd) (hs : inR s) (hv : v = 0 ∨ v = 1) : Sp xs m_F_seen [vR 0, vI s, vI v] (hp w ss cn pl pk pr pn ac st re fg we pc li sl wt pb sh sd rw sn fd i1 w1 sh1 sd1 rw1 sn1 fd1 i2 w2 sh2 sd2 rw2 sn2 fd2 wd R) (some (vI (seA sn s))) (hp w ss cn pl pk pr pn ac st re fg we pc li sl wt pb (seH sh sn s s) (seH sd sn s v) rw (seN sn s) fd i1 w1 sh1 sd1 rw1 sn1 fd1 i2 w2 sh2 sd2 rw2 sn2 fd2 wd R) := by
  have hn := hO.2.2.2.1
  unfold seA seH seN
  by_cases z : sn = 8
  · skip
    refine en_F_seen ?_
    refine r_iload_n cd_F_seen_0 rfl ?_
    refine r_iconst cd_F_seen_1 ?_
    refine r_bipush cd_F_seen_2 ?_
    refine r_cv3 cd_F_seen_4 rfl ck_F_seen_F_isWithin rfl (Nat.le_of_ble_eq_true rfl) (sp_isWithin hs ⟨by decide, by decide⟩ ⟨by decide, by decide⟩) ?_
    refine r_ifne_p cd_F_seen_7 (fun c_7 => ?_) (fun c_7 => ?_)
    · skip
      refine r_aload_n cd_F_seen_13 rfl ?_
      refine r_getfield cd_F_seen_14 hp_0 rfl ?_
      refine r_iload_n cd_F_seen_17 rfl ?_
      refine r_iload_n cd_F_seen_18 rfl ?_
      refine r_vv2 cd_F_seen_19 rfl ck_F_seen_Sights_add (Nat.le_of_ble_eq_true rfl) hp_S.1 rfl (sp_Sights_add_f hp_S hO z) ?_
      refine r_if_eq cd_F_seen_22 ⟨by decide, by decide⟩ (fun _ => ?_) (fun c_22 => absurd c_22 (by decide))
      refine r_bipush cd_F_seen_35 ?_
      exact r_iret cd_F_seen_37 rt_F_seen (by rw [if_pos c_7, if_pos z]) (by rw [if_neg (fun y => y.2 z), if_neg (fun y => y.2 z), if_neg (fun y => y.2 z)])
    · skip
      refine r_bipush cd_F_seen_10 ?_
      exact r_iret cd_F_seen_12 rt_F_seen (by rw [if_neg c_7]) (by rw [if_neg (fun z => c_7 z.1), if_neg (fun z => c_7 z.1), if_neg (fun z => c_7 z.1)])
  · skip
    have h2 : SgAt (hp w ss cn pl pk pr pn ac st re fg we pc li sl wt pb (sh.set sn.toNat s) (sd.set sn.toNat v) rw (sn+1) fd i1 w1 sh1 sd1 rw1 sn1 fd1 i2 w2 sh2 sd2 rw2 sn2 fd2 wd R) 17 (sh.set sn.toNat s) (sd.set sn.toNat v) rw (sn + 1) fd := ⟨rfl, rfl, rfl, rfl⟩
    refine en_F_seen ?_
    refine r_iload_n cd_F_seen_0 rfl ?_
    refine r_iconst cd_F_seen_1 ?_
    refine r_bipush cd_F_seen_2 ?_
    refine r_cv3 cd_F_seen_4 rfl ck_F_seen_F_isWithin rfl (Nat.le_of_ble_eq_true rfl) (sp_isWithin hs ⟨by decide, by decide⟩ ⟨by decide, by decide⟩) ?_
    refine r_ifne_p cd_F_seen_7 (fun c_7 => ?_) (fun c_7 => ?_)
    · skip
      refine r_aload_n cd_F_seen_13 rfl ?_
      refine r_getfield cd_F_seen_14 (by first | exact hp_0 | rfl) rfl ?_
      refine r_iload_n cd_F_seen_17 rfl ?_
      refine r_iload_n cd_F_seen_18 rfl ?_
      refine r_vv2 cd_F_seen_19 rfl ck_F_seen_Sights_add (Nat.le_of_ble_eq_true rfl) (by first | exact hp_S.1 | exact h2.1) rfl (sp_Sights_add_t hp_S hO (by omega) hv) ?_
      skip
      refine r_if_eq cd_F_seen_22 ⟨by decide, by decide⟩ (fun c_22 => absurd c_22 (by decide)) (fun _ => ?_)
      refine r_aload_n cd_F_seen_25 rfl ?_
      refine r_getfield cd_F_seen_26 (by first | exact hp_0 | rfl) rfl ?_
      refine r_vv0 cd_F_seen_29 rfl ck_F_seen_Sights_size (Nat.le_of_ble_eq_true rfl) (by first | exact hp_S.1 | exact h2.1) rfl (sp_Sights_size h2) ?_
      refine r_goto cd_F_seen_32 ?_
      exact r_iret cd_F_seen_37 rt_F_seen (by rw [if_pos c_7, if_neg z]) (by rw [if_pos ⟨c_7, z⟩, if_pos ⟨c_7, z⟩, if_pos ⟨c_7, z⟩]; rfl)
    · skip
      refine r_bipush cd_F_seen_10 ?_
      exact r_iret cd_F_seen_12 rt_F_seen (by rw [if_neg c_7]) (by rw [if_neg (fun z => c_7 z.1), if_neg (fun z => c_7 z.1), if_neg (fun z => c_7 z.1)])
theorem sp_F_forget : Sp xs m_F_forget [vR 0] (hp w ss cn pl pk pr pn ac st re fg we pc li sl wt pb sh sd rw sn fd i1 w1 sh1 sd1 rw1 sn1 fd1 i2 w2 sh2 sd2 rw2 sn2 fd2 wd R) (some (vI sn)) (hp w ss cn pl pk pr pn ac st re fg we pc li sl wt pb sh sd rw 0 fd i1 w1 sh1 sd1 rw1 sn1 fd1 i2 w2 sh2 sd2 rw2 sn2 fd2 wd R) := by
  refine en_F_forget ?_
  refine r_aload_n cd_F_forget_0 rfl ?_
  refine r_getfield cd_F_forget_1 hp_0 rfl ?_
  refine r_vv0 cd_F_forget_4 rfl ck_F_forget_Sights_size (Nat.le_of_ble_eq_true rfl) hp_S.1 rfl (sp_Sights_size hp_S) ?_
  refine r_istoren2_1 cd_F_forget_7 rfl ?_
  refine r_aload_n cd_F_forget_8 rfl ?_
  refine r_getfield cd_F_forget_9 hp_0 rfl ?_
  refine r_vz0 cd_F_forget_12 rfl ck_F_forget_Sights_clear (Nat.le_of_ble_eq_true rfl) hp_S.1 rfl (sp_Sights_clear hp_S) ?_
  refine r_iload_n cd_F_forget_15 rfl ?_
  exact r_iret cd_F_forget_16 rt_F_forget (by first | rfl | omega | (split <;> first | rfl | omega)) (by rfl)
theorem fn_ok : ∀ (k : Nat) (row : Int) (rw : List Int) (fd : Int), 16 ≤ row → row + k = 80 → SgOK sh sd rw cn fd → fd ≤ cR row.toNat → SgOK sh sd (fnA sh sd cn k row rw fd).1 cn (fnA sh sd cn k row rw fd).2
  | 0, row, rw, fd, h0, h1, hO, hc => hO
  | k + 1, row, rw, fd, h0, h1, hO, hc => by
    have f0 := hO.2.2.2.2.2.2.1
    have ck := cR_k row.toNat (by omega) (by omega)
    rw [show ((row.toNat : Nat) : Int) = row by omega] at ck
    unfold fnA
    split
    · next z =>
      have c2 := ck.1 z.1
      exact fn_ok k (row + 1) _ _ (by omega) (by omega) (sg_ok hO f0.1 (by omega) (by omega) (by omega) rfl) (by rw [show (row + 1).toNat = row.toNat + 1 by omega]; omega)
    · exact fn_ok k (row + 1) _ _ (by omega) (by omega) hO (by rw [show (row + 1).toNat = row.toNat + 1 by omega]; omega)
theorem sg_0 (hO : SgOK sh sd rw cn fd) : SgOK sh sd rw cn 0 := ⟨hO.1, hO.2.1, hO.2.2.1, hO.2.2.2.1, hO.2.2.2.2.1, hO.2.2.2.2.2.1, by omega, hO.2.2.2.2.2.2.2⟩
theorem fn_ok0 (hO : SgOK sh sd rw sn fd) : SgOK sh sd (fnA sh sd sn 64 16 rw 0).1 sn (fnA sh sd sn 64 16 rw 0).2 := fn_ok 64 16 rw 0 (by omega) (by omega) (sg_0 hO) (by omega)
theorem sg_n {a : Int} (hO : SgOK sh sd rw sn fd) (h0 : a = 0) : SgOK sh sd rw a fd := ⟨hO.1, hO.2.1, hO.2.2.1, by omega, hO.2.2.2.2.1, hO.2.2.2.2.2.1, hO.2.2.2.2.2.2⟩
def fiA (sh sd : List Int) (sn : Int) (rw : List Int) (i : Int) : Int := if i = -1 then (fnA sh sd sn 64 16 rw 0).2 else if 0 ≤ i ∧ i < (fnA sh sd sn 64 16 rw 0).2 then at_ (fnA sh sd sn 64 16 rw 0).1 i else -6
theorem sp_F_fits {i : Int} (hO : SgOK sh sd rw sn fd) (hi : inR i) : Sp xs m_F_fits [vR 0, vI i] (hp w ss cn pl pk pr pn ac st re fg we pc li sl wt pb sh sd rw sn fd i1 w1 sh1 sd1 rw1 sn1 fd1 i2 w2 sh2 sd2 rw2 sn2 fd2 wd R) (some (vI (fiA sh sd sn rw i))) (hp w ss cn pl pk pr pn ac st re fg we pc li sl wt pb sh sd ((fnA sh sd sn 64 16 rw 0).1) sn ((fnA sh sd sn 64 16 rw 0).2) i1 w1 sh1 sd1 rw1 sn1 fd1 i2 w2 sh2 sd2 rw2 sn2 fd2 wd R) := by
  obtain ⟨a1, a2⟩ := id hi
  have hO2 := fn_ok0 hO
  unfold fiA
  have sF : Sp xs m_Sights_findRows [vR 17] (hp w ss cn pl pk pr pn ac st re fg we pc li sl wt pb sh sd rw sn fd i1 w1 sh1 sd1 rw1 sn1 fd1 i2 w2 sh2 sd2 rw2 sn2 fd2 wd R) (some (vI (fnA sh sd sn 64 16 rw 0).2)) (hp w ss cn pl pk pr pn ac st re fg we pc li sl wt pb sh sd ((fnA sh sd sn 64 16 rw 0).1) sn ((fnA sh sd sn 64 16 rw 0).2) i1 w1 sh1 sd1 rw1 sn1 fd1 i2 w2 sh2 sd2 rw2 sn2 fd2 wd R) := sp_findRows hp_S hO
  generalize fnA sh sd sn 64 16 rw 0 = K at *
  have h2 : SgAt (hp w ss cn pl pk pr pn ac st re fg we pc li sl wt pb sh sd K.1 sn K.2 i1 w1 sh1 sd1 rw1 sn1 fd1 i2 w2 sh2 sd2 rw2 sn2 fd2 wd R) 17 sh sd K.1 sn K.2 := ⟨rfl, rfl, rfl, rfl⟩
  refine en_F_fits ?_
  refine r_aload_n cd_F_fits_0 rfl ?_
  refine r_getfield cd_F_fits_1 (by first | exact hp_0 | rfl) rfl ?_
  refine r_vv0 cd_F_fits_4 rfl ck_F_fits_Sights_findRows (Nat.le_of_ble_eq_true rfl) hp_S.1 rfl sF ?_
  refine r_istoren3_2 cd_F_fits_7 rfl ?_
  refine r_iload_n cd_F_fits_8 rfl ?_
  refine r_iconst cd_F_fits_9 ?_
  refine r_icmp_ne cd_F_fits_10 ⟨by omega, by omega⟩ ⟨by decide, by decide⟩ (fun c_10 => ?_) (fun c_10 => ?_)
  · skip
    refine r_aload_n cd_F_fits_17 rfl ?_
    refine r_getfield cd_F_fits_18 (by first | exact hp_0 | rfl) rfl ?_
    refine r_iload_n cd_F_fits_21 rfl ?_
    refine r_vv1 cd_F_fits_22 rfl ck_F_fits_Sights_rowFound (Nat.le_of_ble_eq_true rfl) h2.1 rfl (sp_rowFound h2 hO2 hi) ?_
    exact r_iret cd_F_fits_25 rt_F_fits (by first | (rw [if_pos c_10]; done) | (rw [if_neg c_10]; done)) (by rfl)
  · skip
    refine r_iload_n cd_F_fits_13 rfl ?_
    refine r_goto cd_F_fits_14 ?_
    exact r_iret cd_F_fits_25 rt_F_fits (by first | (rw [if_pos c_10]; done) | (rw [if_neg c_10]; done)) (by rfl)
def asA (sh sd : List Int) (sn : Int) (rw : List Int) (what : Int) : Int := if what = 0 ∨ what = 1 then (if (fnA sh sd sn 64 16 rw 0).2 = 0 then -6 else if what = 0 then bsA (fnA sh sd sn 64 16 rw 0).1 (fnA sh sd sn 64 16 rw 0).2 60 1 0 else mlf (fnA sh sd sn 64 16 rw 0).1 (fnA sh sd sn 64 16 rw 0).2 (bsA (fnA sh sd sn 64 16 rw 0).1 (fnA sh sd sn 64 16 rw 0).2 60 1 0)) else -2
theorem bsA_bd {rw : List Int} {fd : Int} : ∀ (k : Nat) (i b : Int), 0 ≤ b → b ≤ 60 → 0 ≤ i → i + k ≤ 61 → 0 ≤ bsA rw fd k i b ∧ bsA rw fd k i b ≤ 60
  | 0, i, b, h0, h1, h2, h3 => ⟨h0, h1⟩
  | k + 1, i, b, h0, h1, h2, h3 => by
    unfold bsA
    exact bsA_bd k (i + 1) _ (by split <;> omega) (by split <;> omega) (by omega) (by omega)
theorem sp_F_ask {what : Int} (hO : SgOK sh sd rw sn fd) (hx : inR what) : ∃ rw' fd', SgOK sh sd rw' sn fd' ∧ Sp xs m_F_ask [vR 0, vI what] (hp w ss cn pl pk pr pn ac st re fg we pc li sl wt pb sh sd rw sn fd i1 w1 sh1 sd1 rw1 sn1 fd1 i2 w2 sh2 sd2 rw2 sn2 fd2 wd R) (some (vI (asA sh sd sn rw what))) (hp w ss cn pl pk pr pn ac st re fg we pc li sl wt pb sh sd rw' sn fd' i1 w1 sh1 sd1 rw1 sn1 fd1 i2 w2 sh2 sd2 rw2 sn2 fd2 wd R) := by
  obtain ⟨a1, a2⟩ := id hx
  by_cases z : what = 0 ∨ what = 1
  · have hO2 := fn_ok0 hO
    refine ⟨(fnA sh sd sn 64 16 rw 0).1, (fnA sh sd sn 64 16 rw 0).2, hO2, ?_⟩
    unfold asA
    have sF : Sp xs m_Sights_findRows [vR 17] (hp w ss cn pl pk pr pn ac st re fg we pc li sl wt pb sh sd rw sn fd i1 w1 sh1 sd1 rw1 sn1 fd1 i2 w2 sh2 sd2 rw2 sn2 fd2 wd R) (some (vI (fnA sh sd sn 64 16 rw 0).2)) (hp w ss cn pl pk pr pn ac st re fg we pc li sl wt pb sh sd ((fnA sh sd sn 64 16 rw 0).1) sn ((fnA sh sd sn 64 16 rw 0).2) i1 w1 sh1 sd1 rw1 sn1 fd1 i2 w2 sh2 sd2 rw2 sn2 fd2 wd R) := sp_findRows hp_S hO
    generalize fnA sh sd sn 64 16 rw 0 = K at *
    have h2 : SgAt (hp w ss cn pl pk pr pn ac st re fg we pc li sl wt pb sh sd K.1 sn K.2 i1 w1 sh1 sd1 rw1 sn1 fd1 i2 w2 sh2 sd2 rw2 sn2 fd2 wd R) 17 sh sd K.1 sn K.2 := ⟨rfl, rfl, rfl, rfl⟩
    have hbb := bsA_bd (rw := K.1) (fd := K.2) 60 1 0 (by omega) (by omega) (by omega) (by omega)
    have hfd := hO2.2.2.2.2.2.2.1
    rw [if_pos z]
    refine en_F_ask ?_
    refine r_iload_n cd_F_ask_0 rfl ?_
    refine r_cv1 cd_F_ask_1 rfl ck_F_ask_F_isBit rfl (Nat.le_of_ble_eq_true rfl) (sp_isBit hx) ?_
    refine r_ifne_p cd_F_ask_4 (fun c_4 => ?_) (fun c_4 => ?_)
    · skip
      refine r_aload_n cd_F_ask_10 rfl ?_
      refine r_getfield cd_F_ask_11 (by first | exact hp_0 | rfl) rfl ?_
      refine r_vv0 cd_F_ask_14 rfl ck_F_ask_Sights_findRows (Nat.le_of_ble_eq_true rfl) hp_S.1 rfl sF ?_
      refine r_if_ne cd_F_ask_17 ⟨by omega, by omega⟩ (fun c_17 => ?_) (fun c_17 => ?_)
      · skip
        refine r_aload_n cd_F_ask_23 rfl ?_
        refine r_getfield cd_F_ask_24 (by first | exact hp_0 | rfl) rfl ?_
        refine r_vv0 cd_F_ask_27 rfl ck_F_ask_Sights_bestShot (Nat.le_of_ble_eq_true rfl) h2.1 rfl (sp_bestShot h2 hO2) ?_
        refine r_istoren3_2 cd_F_ask_30 rfl ?_
        refine r_iload_n cd_F_ask_31 rfl ?_
        refine r_if_ne cd_F_ask_32 ⟨by omega, by omega⟩ (fun c_32 => ?_) (fun c_32 => ?_)
        · skip
          refine r_aload_n cd_F_ask_39 rfl ?_
          refine r_getfield cd_F_ask_40 (by first | exact hp_0 | rfl) rfl ?_
          refine r_iload_n cd_F_ask_43 rfl ?_
          refine r_vv1 cd_F_ask_44 rfl ck_F_ask_Sights_mostLeft (Nat.le_of_ble_eq_true rfl) h2.1 rfl (sp_mostLeft h2 hO2 hbb.1 hbb.2) ?_
          exact r_iret cd_F_ask_47 rt_F_ask (by first | (rw [if_neg (by omega), if_pos c_32]; done) | (rw [if_neg (by omega), if_neg c_32]; done)) (by rfl)
        · skip
          refine r_iload_n cd_F_ask_35 rfl ?_
          refine r_goto cd_F_ask_36 ?_
          exact r_iret cd_F_ask_47 rt_F_ask (by first | (rw [if_neg (by omega), if_pos c_32]; done) | (rw [if_neg (by omega), if_neg c_32]; done)) (by rfl)
      · skip
        refine r_bipush cd_F_ask_20 ?_
        exact r_iret cd_F_ask_22 rt_F_ask (by rw [if_pos (by omega)]) (by rfl)
    · skip
      refine r_bipush cd_F_ask_7 ?_
      exact absurd z c_4
  · refine ⟨rw, fd, hO, ?_⟩
    unfold asA
    rw [if_neg z]
    refine en_F_ask ?_
    refine r_iload_n cd_F_ask_0 rfl ?_
    refine r_cv1 cd_F_ask_1 rfl ck_F_ask_F_isBit rfl (Nat.le_of_ble_eq_true rfl) (sp_isBit hx) ?_
    refine r_ifne_p cd_F_ask_4 (fun c_4 => ?_) (fun c_4 => ?_)
    · skip
      exact absurd c_4 z
    · skip
      refine r_bipush cd_F_ask_7 ?_
      exact r_iret cd_F_ask_9 rt_F_ask (by rfl) (by rfl)
-- years
def yrX (x : Int) : Int := (75 * x + 74) % 65537
def yrA : Nat → Int → List Int → List Int
  | 0, _, w => w
  | k + 1, x, w => yrA k (yrX x) (drawn w (yrX x))
def yrV (v : List Int) (what : Int) : Int := if what = 0 then at_ v 18 + at_ v 19 else if what = 1 then at_ v 20 else at_ v 16
def yeA (w : List Int) (seed m what : Int) : Int := if (0 ≤ seed ∧ seed ≤ 9999) ∧ (1 ≤ m ∧ m ≤ 99) ∧ (0 ≤ what ∧ what ≤ 2) then yrV (yrA m.toNat seed w) what else -2
theorem yrX_bd {x : Int} : 0 ≤ yrX x ∧ yrX x < 65537 := by unfold yrX; omega
theorem wf_yrA : ∀ (k : Nat) (x : Int) (w : List Int), WF w → WF (yrA k x w)
  | 0, _, _, h => h
  | k + 1, x, w, h => by
    unfold yrA
    exact wf_yrA k _ _ (wf_drawn h yrX_bd.1)
theorem lp_F_year {seed m what : Int} (hm1 : m ≤ 99) (hx0 : 0 ≤ what) (hx1 : what ≤ 2) : ∀ (k : Nat) (i x : Int) (v : List Int), 0 ≤ i → i + k = m → 0 ≤ x → x < 65537 → WF v → Rn xs m_F_year 50 [vR 0, vI seed, vI m, vI what, vI x, vI i] [] (hp w ss cn pl pk pr pn ac st re fg we pc li sl wt pb sh sd rw sn fd i1 w1 sh1 sd1 rw1 sn1 fd1 i2 w2 sh2 sd2 rw2 sn2 fd2 v R) (some (vI (yrV (yrA k x v) what))) (hp w ss cn pl pk pr pn ac st re fg we pc li sl wt pb sh sd rw sn fd i1 w1 sh1 sd1 rw1 sn1 fd1 i2 w2 sh2 sd2 rw2 sn2 fd2 (yrA k x v) R) := by
  intro k
  induction k with
  | zero =>
    intro i x v i0 j1 x0 x1 hv
    have hT : TabAt (hp w ss cn pl pk pr pn ac st re fg we pc li sl wt pb sh sd rw sn fd i1 w1 sh1 sd1 rw1 sn1 fd1 i2 w2 sh2 sd2 rw2 sn2 fd2 v R) 37 v := ⟨rfl, rfl, rfl⟩
    unfold yrA
    refine r_iload cd_F_year_50 rfl ?_
    refine r_iload_n cd_F_year_52 rfl ?_
    refine r_icmp_ge cd_F_year_53 ⟨by omega, by omega⟩ ⟨by omega, by omega⟩ (fun c_53 => ?_) (fun c_53 => ?_)
    · skip
      refine r_iload_n cd_F_year_84 rfl ?_
      by_cases s_85_0 : what = 0
      · skip
        rw [s_85_0]
        refine r_lookup (t := 112) cd_F_year_85 ⟨by decide, by decide⟩ (by decide) (by decide) ?_
        refine r_aload_n cd_F_year_112 rfl ?_
        refine r_getfield cd_F_year_113 hp_0 rfl ?_
        refine r_vv0 cd_F_year_116 rfl ck_F_year_Table_scoredInAll (Nat.le_of_ble_eq_true rfl) hT.1 rfl (sp_scoredInAll hT) ?_
        exact r_iret cd_F_year_119 rt_F_year (by first | rfl | (unfold yrV; rw [if_neg (by omega), if_neg (by omega)])) (by rfl)
      by_cases s_85_1 : what = 1
      · skip
        rw [s_85_1]
        refine r_lookup (t := 120) cd_F_year_85 ⟨by decide, by decide⟩ (by decide) (by decide) ?_
        refine r_aload_n cd_F_year_120 rfl ?_
        refine r_getfield cd_F_year_121 hp_0 rfl ?_
        refine r_vv0 cd_F_year_124 rfl ck_F_year_Table_tenth (Nat.le_of_ble_eq_true rfl) hT.1 rfl (sp_tenth hT) ?_
        exact r_iret cd_F_year_127 rt_F_year (by first | rfl | (unfold yrV; rw [if_neg (by omega), if_neg (by omega)])) (by rfl)
      refine r_lookup (t := 128) cd_F_year_85 ⟨by omega, by omega⟩ (by decide) (by simp only [Op.lookupswitch.offset]; split <;> first | omega | rfl) ?_
      refine r_aload_n cd_F_year_128 rfl ?_
      refine r_getfield cd_F_year_129 hp_0 rfl ?_
      refine r_vv0 cd_F_year_132 rfl ck_F_year_Table_ballRod (Nat.le_of_ble_eq_true rfl) hT.1 rfl (sp_ballRod hT) ?_
      exact r_iret cd_F_year_135 rt_F_year (by first | rfl | (unfold yrV; rw [if_neg (by omega), if_neg (by omega)])) (by rfl)
    · skip
      omega
  | succ k ih =>
    intro i x v i0 j1 x0 x1 hv
    have hT : TabAt (hp w ss cn pl pk pr pn ac st re fg we pc li sl wt pb sh sd rw sn fd i1 w1 sh1 sd1 rw1 sn1 fd1 i2 w2 sh2 sd2 rw2 sn2 fd2 v R) 37 v := ⟨rfl, rfl, rfl⟩
    have e1 : (75 * x + 74).tmod 65537 = yrX x := Int.tmod_eq_emod_of_nonneg (by omega)
    have hb := yrX_bd (x := x)
    have e9 := ih (i + 1) (yrX x) (drawn v (yrX x)) (by omega) (by omega) hb.1 hb.2 (wf_drawn hv hb.1)
    have sD : Sp xs m_Table_tryDrawn [vR 37, vI (yrX x)] (hp w ss cn pl pk pr pn ac st re fg we pc li sl wt pb sh sd rw sn fd i1 w1 sh1 sd1 rw1 sn1 fd1 i2 w2 sh2 sd2 rw2 sn2 fd2 v R) none (hp w ss cn pl pk pr pn ac st re fg we pc li sl wt pb sh sd rw sn fd i1 w1 sh1 sd1 rw1 sn1 fd1 i2 w2 sh2 sd2 rw2 sn2 fd2 (drawn v (yrX x)) R) := sp_tryDrawn hT hv hb.1 (by omega)
    refine r_iload cd_F_year_50 rfl ?_
    refine r_iload_n cd_F_year_52 rfl ?_
    refine r_icmp_ge cd_F_year_53 ⟨by omega, by omega⟩ ⟨by omega, by omega⟩ (fun c_53 => ?_) (fun c_53 => ?_)
    · skip
      omega
    · skip
      refine r_bipush cd_F_year_56 ?_
      refine r_iload cd_F_year_58 rfl ?_
      refine r_imul cd_F_year_60 ?_
      refine r_bipush cd_F_year_61 ?_
      refine r_iadd cd_F_year_63 ?_
      refine r_ldc cd_F_year_64 ?_
      refine r_irem cd_F_year_66 ⟨by omega, by omega⟩ ⟨by decide, by decide⟩ (by decide) ?_
      refine r_istore6_4 cd_F_year_67 rfl ?_
      refine r_aload_n cd_F_year_69 rfl ?_
      refine r_getfield cd_F_year_70 hp_0 rfl ?_
      refine r_iload cd_F_year_73 rfl ?_
      refine r_vz1 cd_F_year_75 rfl ck_F_year_Table_tryDrawn (Nat.le_of_ble_eq_true rfl) hT.1 rfl (by rw [e1]; exact sD) ?_
      refine r_iinc6_5 cd_F_year_78 rfl ?_
      refine r_goto cd_F_year_81 ?_
      (rw [e1]; (conv => { rhs; skip }); exact e9)
theorem sp_F_year {seed m what : Int} (hw : WF w) (hwd : wd.length = 21) (h1 : inR seed) (h2 : inR m) (h3 : inR what) : ∃ wd', wd'.length = 21 ∧ Sp xs m_F_year [vR 0, vI seed, vI m, vI what] (hp w ss cn pl pk pr pn ac st re fg we pc li sl wt pb sh sd rw sn fd i1 w1 sh1 sd1 rw1 sn1 fd1 i2 w2 sh2 sd2 rw2 sn2 fd2 wd R) (some (vI (yeA w seed m what))) (hp w ss cn pl pk pr pn ac st re fg we pc li sl wt pb sh sd rw sn fd i1 w1 sh1 sd1 rw1 sn1 fd1 i2 w2 sh2 sd2 rw2 sn2 fd2 wd' R) := by
  by_cases z : (0 ≤ seed ∧ seed ≤ 9999) ∧ (1 ≤ m ∧ m ≤ 99) ∧ (0 ≤ what ∧ what ≤ 2)
  · refine ⟨yrA m.toNat seed w, (wf_yrA _ _ _ hw).1, ?_⟩
    obtain ⟨z1, z2, z3⟩ := id z
    have e9 := lp_F_year (xs := xs) (seed := seed) (m := m) (ss := ss) (cn := cn) (pl := pl) (pk := pk) (pr := pr) (pn := pn) (ac := ac) (st := st) (re := re) (fg := fg) (we := we) (pc := pc) (li := li) (sl := sl) (wt := wt) (pb := pb) (sh := sh) (sd := sd) (rw := rw) (sn := sn) (fd := fd) (i1 := i1) (w1 := w1) (sh1 := sh1) (sd1 := sd1) (rw1 := rw1) (sn1 := sn1) (fd1 := fd1) (i2 := i2) (w2 := w2) (sh2 := sh2) (sd2 := sd2) (rw2 := rw2) (sn2 := sn2) (fd2 := fd2) (w := w) (R := R) z2.2 z3.1 z3.2 m.toNat 0 seed w (by omega) (by omega) z1.1 (by omega) hw
    have sC : Sp xs m_Table_copyFrom [vR 37, vR 1] (hp w ss cn pl pk pr pn ac st re fg we pc li sl wt pb sh sd rw sn fd i1 w1 sh1 sd1 rw1 sn1 fd1 i2 w2 sh2 sd2 rw2 sn2 fd2 wd R) none (hp w ss cn pl pk pr pn ac st re fg we pc li sl wt pb sh sd rw sn fd i1 w1 sh1 sd1 rw1 sn1 fd1 i2 w2 sh2 sd2 rw2 sn2 fd2 w R) := sp_copyFrom (by omega) hp_Td hp_T hwd hw.1
    unfold yeA
    rw [if_pos z]
    refine en_F_year ?_
    refine r_iload_n cd_F_year_0 rfl ?_
    refine r_iconst cd_F_year_1 ?_
    refine r_sipush cd_F_year_2 ?_
    refine r_cv3 cd_F_year_5 rfl ck_F_year_F_isWithin rfl (Nat.le_of_ble_eq_true rfl) (sp_isWithin h1 ⟨by decide, by decide⟩ ⟨by decide, by decide⟩) ?_
    refine r_ifeq_p cd_F_year_8 (fun c_8 => ?_) (fun c_8 => ?_)
    · skip
      first | exact absurd z1 c_8 | exact absurd z2 c_18 | exact absurd z3 c_27
    · skip
      refine r_iload_n cd_F_year_11 rfl ?_
      refine r_iconst cd_F_year_12 ?_
      refine r_bipush cd_F_year_13 ?_
      refine r_cv3 cd_F_year_15 rfl ck_F_year_F_isWithin rfl (Nat.le_of_ble_eq_true rfl) (sp_isWithin h2 ⟨by decide, by decide⟩ ⟨by decide, by decide⟩) ?_
      refine r_ifeq_p cd_F_year_18 (fun c_18 => ?_) (fun c_18 => ?_)
      · skip
        first | exact absurd z1 c_8 | exact absurd z2 c_18 | exact absurd z3 c_27
      · skip
        refine r_iload_n cd_F_year_21 rfl ?_
        refine r_iconst cd_F_year_22 ?_
        refine r_iconst cd_F_year_23 ?_
        refine r_cv3 cd_F_year_24 rfl ck_F_year_F_isWithin rfl (Nat.le_of_ble_eq_true rfl) (sp_isWithin h3 ⟨by decide, by decide⟩ ⟨by decide, by decide⟩) ?_
        refine r_ifne_p cd_F_year_27 (fun c_27 => ?_) (fun c_27 => ?_)
        · skip
          refine r_aload_n cd_F_year_33 rfl ?_
          refine r_getfield cd_F_year_34 hp_0 rfl ?_
          refine r_aload_n cd_F_year_37 rfl ?_
          refine r_getfield cd_F_year_38 hp_0 rfl ?_
          refine r_vz1 cd_F_year_41 rfl ck_F_year_Table_copyFrom (Nat.le_of_ble_eq_true rfl) hp_Td.1 rfl sC ?_
          refine r_iload_n cd_F_year_44 rfl ?_
          refine r_istore6_4 cd_F_year_45 rfl ?_
          refine r_iconst cd_F_year_47 ?_
          refine r_istore6_5 cd_F_year_48 rfl ?_
          exact e9
        · skip
          first | exact absurd z1 c_8 | exact absurd z2 c_18 | exact absurd z3 c_27
  · refine ⟨wd, hwd, ?_⟩
    unfold yeA
    rw [if_neg z]
    refine en_F_year ?_
    refine r_iload_n cd_F_year_0 rfl ?_
    refine r_iconst cd_F_year_1 ?_
    refine r_sipush cd_F_year_2 ?_
    refine r_cv3 cd_F_year_5 rfl ck_F_year_F_isWithin rfl (Nat.le_of_ble_eq_true rfl) (sp_isWithin h1 ⟨by decide, by decide⟩ ⟨by decide, by decide⟩) ?_
    refine r_ifeq_p cd_F_year_8 (fun c_8 => ?_) (fun c_8 => ?_)
    · skip
      refine r_bipush cd_F_year_30 ?_
      exact r_iret cd_F_year_32 rt_F_year (by rfl) (by rfl)
    · skip
      refine r_iload_n cd_F_year_11 rfl ?_
      refine r_iconst cd_F_year_12 ?_
      refine r_bipush cd_F_year_13 ?_
      refine r_cv3 cd_F_year_15 rfl ck_F_year_F_isWithin rfl (Nat.le_of_ble_eq_true rfl) (sp_isWithin h2 ⟨by decide, by decide⟩ ⟨by decide, by decide⟩) ?_
      refine r_ifeq_p cd_F_year_18 (fun c_18 => ?_) (fun c_18 => ?_)
      · skip
        refine r_bipush cd_F_year_30 ?_
        exact r_iret cd_F_year_32 rt_F_year (by rfl) (by rfl)
      · skip
        refine r_iload_n cd_F_year_21 rfl ?_
        refine r_iconst cd_F_year_22 ?_
        refine r_iconst cd_F_year_23 ?_
        refine r_cv3 cd_F_year_24 rfl ck_F_year_F_isWithin rfl (Nat.le_of_ble_eq_true rfl) (sp_isWithin h3 ⟨by decide, by decide⟩ ⟨by decide, by decide⟩) ?_
        refine r_ifne_p cd_F_year_27 (fun c_27 => ?_) (fun c_27 => ?_)
        · skip
          exact absurd ⟨c_8, c_18, c_27⟩ z
        · skip
          refine r_bipush cd_F_year_30 ?_
          exact r_iret cd_F_year_32 rt_F_year (by rfl) (by rfl)
-- images
def imA (n : Int) : Int := if n = 0 ∨ n = 1 then 1 else -2
theorem sp_imageOf_0 : Sp xs m_F_imageOf [vR 0, vI 0] (hp w ss cn pl pk pr pn ac st re fg we pc li sl wt pb sh sd rw sn fd i1 w1 sh1 sd1 rw1 sn1 fd1 i2 w2 sh2 sd2 rw2 sn2 fd2 wd R) (some (vR 21)) (hp w ss cn pl pk pr pn ac st re fg we pc li sl wt pb sh sd rw sn fd i1 w1 sh1 sd1 rw1 sn1 fd1 i2 w2 sh2 sd2 rw2 sn2 fd2 wd R) := by
  refine en_F_imageOf ?_
  refine r_iload_n cd_F_imageOf_0 rfl ?_
  refine r_if_ne cd_F_imageOf_1 ⟨by decide, by decide⟩ (fun c_1 => absurd c_1 (by decide)) (fun _ => ?_)
  refine r_aload_n cd_F_imageOf_4 rfl ?_
  refine r_getfield cd_F_imageOf_5 hp_0 rfl ?_
  refine r_goto cd_F_imageOf_8 ?_
  exact r_aret cd_F_imageOf_15 rt_F_imageOf (by rfl)
theorem sp_imageOf_1 : Sp xs m_F_imageOf [vR 0, vI 1] (hp w ss cn pl pk pr pn ac st re fg we pc li sl wt pb sh sd rw sn fd i1 w1 sh1 sd1 rw1 sn1 fd1 i2 w2 sh2 sd2 rw2 sn2 fd2 wd R) (some (vR 29)) (hp w ss cn pl pk pr pn ac st re fg we pc li sl wt pb sh sd rw sn fd i1 w1 sh1 sd1 rw1 sn1 fd1 i2 w2 sh2 sd2 rw2 sn2 fd2 wd R) := by
  refine en_F_imageOf ?_
  refine r_iload_n cd_F_imageOf_0 rfl ?_
  refine r_if_ne cd_F_imageOf_1 ⟨by decide, by decide⟩ (fun _ => ?_) (fun c_1 => absurd c_1 (by decide))
  refine r_aload_n cd_F_imageOf_11 rfl ?_
  refine r_getfield cd_F_imageOf_12 hp_0 rfl ?_
  exact r_aret cd_F_imageOf_15 rt_F_imageOf (by rfl)
theorem sp_F_image_n {n : Int} (hn : inR n) (z : ¬ (n = 0 ∨ n = 1)) : Sp xs m_F_image [vR 0, vI n] (hp w ss cn pl pk pr pn ac st re fg we pc li sl wt pb sh sd rw sn fd i1 w1 sh1 sd1 rw1 sn1 fd1 i2 w2 sh2 sd2 rw2 sn2 fd2 wd R) (some (vI (-2))) (hp w ss cn pl pk pr pn ac st re fg we pc li sl wt pb sh sd rw sn fd i1 w1 sh1 sd1 rw1 sn1 fd1 i2 w2 sh2 sd2 rw2 sn2 fd2 wd R) := by
  refine en_F_image ?_
  refine r_iload_n cd_F_image_0 rfl ?_
  refine r_cv1 cd_F_image_1 rfl ck_F_image_F_isBit rfl (Nat.le_of_ble_eq_true rfl) (sp_isBit hn) ?_
  refine r_ifne_p cd_F_image_4 (fun c_4 => ?_) (fun c_4 => ?_)
  · skip
    exact absurd c_4 z
  · skip
    refine r_bipush cd_F_image_7 ?_
    exact r_iret cd_F_image_9 rt_F_image (by rfl) (by rfl)
theorem sp_F_image_0 (hw : WF w) (hw1 : w1.length = 21) (hO : SgOK sh sd rw sn fd) (hO1 : SgOK sh1 sd1 rw1 sn1 fd1) : Sp xs m_F_image [vR 0, vI 0] (hp w ss cn pl pk pr pn ac st re fg we pc li sl wt pb sh sd rw sn fd i1 w1 sh1 sd1 rw1 sn1 fd1 i2 w2 sh2 sd2 rw2 sn2 fd2 wd R) (some (vI 1)) (hp w ss cn pl pk pr pn ac st re fg we pc li sl wt pb sh sd rw sn fd 1 w sh sd rw1 sn fd1 i2 w2 sh2 sd2 rw2 sn2 fd2 wd R) := by
  have sK : Sp xs m_Image_keep [vR 21, vR 1, vR 17] (hp w ss cn pl pk pr pn ac st re fg we pc li sl wt pb sh sd rw sn fd i1 w1 sh1 sd1 rw1 sn1 fd1 i2 w2 sh2 sd2 rw2 sn2 fd2 wd R) none (hp w ss cn pl pk pr pn ac st re fg we pc li sl wt pb sh sd rw sn fd 1 w sh sd rw1 sn fd1 i2 w2 sh2 sd2 rw2 sn2 fd2 wd R) := sp_keep (by omega) hp_I1 hp_T hw.1 hp_T1 hw1 hp_S hO hp_S1 hO1
  refine en_F_image ?_
  refine r_iload_n cd_F_image_0 rfl ?_
  refine r_cv1 cd_F_image_1 rfl ck_F_image_F_isBit rfl (Nat.le_of_ble_eq_true rfl) (by have e9 := sp_isBit (xs := xs) (h := (hp w ss cn pl pk pr pn ac st re fg we pc li sl wt pb sh sd rw sn fd i1 w1 sh1 sd1 rw1 sn1 fd1 i2 w2 sh2 sd2 rw2 sn2 fd2 wd R)) (v := 0) ⟨by decide, by decide⟩; rw [bp_t (Or.inl rfl)] at e9; exact e9) ?_
  refine r_if_ne cd_F_image_4 ⟨by decide, by decide⟩ (fun _ => ?_) (fun c_4 => absurd c_4 (by decide))
  refine r_aload_n cd_F_image_10 rfl ?_
  refine r_iload_n cd_F_image_11 rfl ?_
  refine r_vv1 cd_F_image_12 rfl ck_F_image_F_imageOf (Nat.le_of_ble_eq_true rfl) hp_0 rfl sp_imageOf_0 ?_
  refine r_aload_n cd_F_image_15 rfl ?_
  refine r_getfield cd_F_image_16 hp_0 rfl ?_
  refine r_aload_n cd_F_image_19 rfl ?_
  refine r_getfield cd_F_image_20 hp_0 rfl ?_
  refine r_vz2 cd_F_image_23 rfl ck_F_image_Image_keep (Nat.le_of_ble_eq_true rfl) hp_I1 rfl sK ?_
  refine r_iconst cd_F_image_26 ?_
  exact r_iret cd_F_image_27 rt_F_image (by rfl) (by rfl)
theorem sp_F_image_1 (hw : WF w) (hw2 : w2.length = 21) (hO : SgOK sh sd rw sn fd) (hO2 : SgOK sh2 sd2 rw2 sn2 fd2) : Sp xs m_F_image [vR 0, vI 1] (hp w ss cn pl pk pr pn ac st re fg we pc li sl wt pb sh sd rw sn fd i1 w1 sh1 sd1 rw1 sn1 fd1 i2 w2 sh2 sd2 rw2 sn2 fd2 wd R) (some (vI 1)) (hp w ss cn pl pk pr pn ac st re fg we pc li sl wt pb sh sd rw sn fd i1 w1 sh1 sd1 rw1 sn1 fd1 1 w sh sd rw2 sn fd2 wd R) := by
  have sK : Sp xs m_Image_keep [vR 29, vR 1, vR 17] (hp w ss cn pl pk pr pn ac st re fg we pc li sl wt pb sh sd rw sn fd i1 w1 sh1 sd1 rw1 sn1 fd1 i2 w2 sh2 sd2 rw2 sn2 fd2 wd R) none (hp w ss cn pl pk pr pn ac st re fg we pc li sl wt pb sh sd rw sn fd i1 w1 sh1 sd1 rw1 sn1 fd1 1 w sh sd rw2 sn fd2 wd R) := sp_keep (by omega) hp_I2 hp_T hw.1 hp_T2 hw2 hp_S hO hp_S2 hO2
  refine en_F_image ?_
  refine r_iload_n cd_F_image_0 rfl ?_
  refine r_cv1 cd_F_image_1 rfl ck_F_image_F_isBit rfl (Nat.le_of_ble_eq_true rfl) (by have e9 := sp_isBit (xs := xs) (h := (hp w ss cn pl pk pr pn ac st re fg we pc li sl wt pb sh sd rw sn fd i1 w1 sh1 sd1 rw1 sn1 fd1 i2 w2 sh2 sd2 rw2 sn2 fd2 wd R)) (v := 1) ⟨by decide, by decide⟩; rw [bp_t (Or.inr rfl)] at e9; exact e9) ?_
  refine r_if_ne cd_F_image_4 ⟨by decide, by decide⟩ (fun _ => ?_) (fun c_4 => absurd c_4 (by decide))
  refine r_aload_n cd_F_image_10 rfl ?_
  refine r_iload_n cd_F_image_11 rfl ?_
  refine r_vv1 cd_F_image_12 rfl ck_F_image_F_imageOf (Nat.le_of_ble_eq_true rfl) hp_0 rfl sp_imageOf_1 ?_
  refine r_aload_n cd_F_image_15 rfl ?_
  refine r_getfield cd_F_image_16 hp_0 rfl ?_
  refine r_aload_n cd_F_image_19 rfl ?_
  refine r_getfield cd_F_image_20 hp_0 rfl ?_
  refine r_vz2 cd_F_image_23 rfl ck_F_image_Image_keep (Nat.le_of_ble_eq_true rfl) hp_I2 rfl sK ?_
  refine r_iconst cd_F_image_26 ?_
  exact r_iret cd_F_image_27 rt_F_image (by rfl) (by rfl)
theorem sp_F_restore_n {n : Int} (hn : inR n) (z : ¬ (n = 0 ∨ n = 1)) : Sp xs m_F_restore [vR 0, vI n] (hp w ss cn pl pk pr pn ac st re fg we pc li sl wt pb sh sd rw sn fd i1 w1 sh1 sd1 rw1 sn1 fd1 i2 w2 sh2 sd2 rw2 sn2 fd2 wd R) (some (vI (-2))) (hp w ss cn pl pk pr pn ac st re fg we pc li sl wt pb sh sd rw sn fd i1 w1 sh1 sd1 rw1 sn1 fd1 i2 w2 sh2 sd2 rw2 sn2 fd2 wd R) := by
  refine en_F_restore ?_
  refine r_iload_n cd_F_restore_0 rfl ?_
  refine r_cv1 cd_F_restore_1 rfl ck_F_restore_F_isBit rfl (Nat.le_of_ble_eq_true rfl) (sp_isBit hn) ?_
  refine r_ifne_p cd_F_restore_4 (fun c_4 => ?_) (fun c_4 => ?_)
  · skip
    exact absurd c_4 z
  · skip
    refine r_bipush cd_F_restore_7 ?_
    exact r_iret cd_F_restore_9 rt_F_restore (by rfl) (by rfl)
theorem sp_F_restore_0f (z : i1 = 0) : Sp xs m_F_restore [vR 0, vI 0] (hp w ss cn pl pk pr pn ac st re fg we pc li sl wt pb sh sd rw sn fd i1 w1 sh1 sd1 rw1 sn1 fd1 i2 w2 sh2 sd2 rw2 sn2 fd2 wd R) (some (vI (-3))) (hp w ss cn pl pk pr pn ac st re fg we pc li sl wt pb sh sd rw sn fd i1 w1 sh1 sd1 rw1 sn1 fd1 i2 w2 sh2 sd2 rw2 sn2 fd2 wd R) := by
  subst z
  refine en_F_restore ?_
  refine r_iload_n cd_F_restore_0 rfl ?_
  refine r_cv1 cd_F_restore_1 rfl ck_F_restore_F_isBit rfl (Nat.le_of_ble_eq_true rfl) (by have e9 := sp_isBit (xs := xs) (h := (hp w ss cn pl pk pr pn ac st re fg we pc li sl wt pb sh sd rw sn fd 0 w1 sh1 sd1 rw1 sn1 fd1 i2 w2 sh2 sd2 rw2 sn2 fd2 wd R)) (v := 0) ⟨by decide, by decide⟩; rw [bp_t (Or.inl rfl)] at e9; exact e9) ?_
  refine r_if_ne cd_F_restore_4 ⟨by decide, by decide⟩ (fun _ => ?_) (fun c_4 => absurd c_4 (by decide))
  refine r_aload_n cd_F_restore_10 rfl ?_
  refine r_iload_n cd_F_restore_11 rfl ?_
  refine r_vv1 cd_F_restore_12 rfl ck_F_restore_F_imageOf (Nat.le_of_ble_eq_true rfl) hp_0 rfl sp_imageOf_0 ?_
  refine r_aload_n cd_F_restore_15 rfl ?_
  refine r_getfield cd_F_restore_16 hp_0 rfl ?_
  refine r_aload_n cd_F_restore_19 rfl ?_
  refine r_getfield cd_F_restore_20 hp_0 rfl ?_
  refine r_vv2 cd_F_restore_23 rfl ck_F_restore_Image_giveBack (Nat.le_of_ble_eq_true rfl) hp_I1 rfl (sp_giveBack_f hp_I1) ?_
  refine r_if_eq cd_F_restore_26 ⟨by decide, by decide⟩ (fun _ => ?_) (fun c_26 => absurd c_26 (by decide))
  refine r_bipush cd_F_restore_33 ?_
  exact r_iret cd_F_restore_35 rt_F_restore (by rfl) (by rfl)
theorem sp_F_restore_0t (z : i1 = 1) (hw : WF w) (hw1 : w1.length = 21) (hO : SgOK sh sd rw sn fd) (hO1 : SgOK sh1 sd1 rw1 sn1 fd1) : Sp xs m_F_restore [vR 0, vI 0] (hp w ss cn pl pk pr pn ac st re fg we pc li sl wt pb sh sd rw sn fd i1 w1 sh1 sd1 rw1 sn1 fd1 i2 w2 sh2 sd2 rw2 sn2 fd2 wd R) (some (vI 1)) (hp w1 ss cn pl pk pr pn ac st re fg we pc li sl wt pb sh1 sd1 rw sn1 fd i1 w1 sh1 sd1 rw1 sn1 fd1 i2 w2 sh2 sd2 rw2 sn2 fd2 wd R) := by
  subst z
  have sK : Sp xs m_Image_giveBack [vR 21, vR 1, vR 17] (hp w ss cn pl pk pr pn ac st re fg we pc li sl wt pb sh sd rw sn fd 1 w1 sh1 sd1 rw1 sn1 fd1 i2 w2 sh2 sd2 rw2 sn2 fd2 wd R) (some (vI 1)) (hp w1 ss cn pl pk pr pn ac st re fg we pc li sl wt pb sh1 sd1 rw sn1 fd 1 w1 sh1 sd1 rw1 sn1 fd1 i2 w2 sh2 sd2 rw2 sn2 fd2 wd R) := sp_giveBack_t (by omega) hp_I1 hp_T hw.1 hp_T1 hw1 hp_S hO hp_S1 hO1
  refine en_F_restore ?_
  refine r_iload_n cd_F_restore_0 rfl ?_
  refine r_cv1 cd_F_restore_1 rfl ck_F_restore_F_isBit rfl (Nat.le_of_ble_eq_true rfl) (by have e9 := sp_isBit (xs := xs) (h := (hp w ss cn pl pk pr pn ac st re fg we pc li sl wt pb sh sd rw sn fd 1 w1 sh1 sd1 rw1 sn1 fd1 i2 w2 sh2 sd2 rw2 sn2 fd2 wd R)) (v := 0) ⟨by decide, by decide⟩; rw [bp_t (Or.inl rfl)] at e9; exact e9) ?_
  refine r_if_ne cd_F_restore_4 ⟨by decide, by decide⟩ (fun _ => ?_) (fun c_4 => absurd c_4 (by decide))
  refine r_aload_n cd_F_restore_10 rfl ?_
  refine r_iload_n cd_F_restore_11 rfl ?_
  refine r_vv1 cd_F_restore_12 rfl ck_F_restore_F_imageOf (Nat.le_of_ble_eq_true rfl) hp_0 rfl sp_imageOf_0 ?_
  refine r_aload_n cd_F_restore_15 rfl ?_
  refine r_getfield cd_F_restore_16 hp_0 rfl ?_
  refine r_aload_n cd_F_restore_19 rfl ?_
  refine r_getfield cd_F_restore_20 hp_0 rfl ?_
  refine r_vv2 cd_F_restore_23 rfl ck_F_restore_Image_giveBack (Nat.le_of_ble_eq_true rfl) hp_I1 rfl sK ?_
  refine r_if_eq cd_F_restore_26 ⟨by decide, by decide⟩ (fun c_26 => absurd c_26 (by decide)) (fun _ => ?_)
  refine r_iconst cd_F_restore_29 ?_
  refine r_goto cd_F_restore_30 ?_
  exact r_iret cd_F_restore_35 rt_F_restore (by rfl) (by rfl)
theorem sp_F_restore_1f (z : i2 = 0) : Sp xs m_F_restore [vR 0, vI 1] (hp w ss cn pl pk pr pn ac st re fg we pc li sl wt pb sh sd rw sn fd i1 w1 sh1 sd1 rw1 sn1 fd1 i2 w2 sh2 sd2 rw2 sn2 fd2 wd R) (some (vI (-3))) (hp w ss cn pl pk pr pn ac st re fg we pc li sl wt pb sh sd rw sn fd i1 w1 sh1 sd1 rw1 sn1 fd1 i2 w2 sh2 sd2 rw2 sn2 fd2 wd R) := by
  subst z
  refine en_F_restore ?_
  refine r_iload_n cd_F_restore_0 rfl ?_
  refine r_cv1 cd_F_restore_1 rfl ck_F_restore_F_isBit rfl (Nat.le_of_ble_eq_true rfl) (by have e9 := sp_isBit (xs := xs) (h := (hp w ss cn pl pk pr pn ac st re fg we pc li sl wt pb sh sd rw sn fd i1 w1 sh1 sd1 rw1 sn1 fd1 0 w2 sh2 sd2 rw2 sn2 fd2 wd R)) (v := 1) ⟨by decide, by decide⟩; rw [bp_t (Or.inr rfl)] at e9; exact e9) ?_
  refine r_if_ne cd_F_restore_4 ⟨by decide, by decide⟩ (fun _ => ?_) (fun c_4 => absurd c_4 (by decide))
  refine r_aload_n cd_F_restore_10 rfl ?_
  refine r_iload_n cd_F_restore_11 rfl ?_
  refine r_vv1 cd_F_restore_12 rfl ck_F_restore_F_imageOf (Nat.le_of_ble_eq_true rfl) hp_0 rfl sp_imageOf_1 ?_
  refine r_aload_n cd_F_restore_15 rfl ?_
  refine r_getfield cd_F_restore_16 hp_0 rfl ?_
  refine r_aload_n cd_F_restore_19 rfl ?_
  refine r_getfield cd_F_restore_20 hp_0 rfl ?_
  refine r_vv2 cd_F_restore_23 rfl ck_F_restore_Image_giveBack (Nat.le_of_ble_eq_true rfl) hp_I2 rfl (sp_giveBack_f hp_I2) ?_
  refine r_if_eq cd_F_restore_26 ⟨by decide, by decide⟩ (fun _ => ?_) (fun c_26 => absurd c_26 (by decide))
  refine r_bipush cd_F_restore_33 ?_
  exact r_iret cd_F_restore_35 rt_F_restore (by rfl) (by rfl)
theorem sp_F_restore_1t (z : i2 = 1) (hw : WF w) (hw2 : w2.length = 21) (hO : SgOK sh sd rw sn fd) (hO2 : SgOK sh2 sd2 rw2 sn2 fd2) : Sp xs m_F_restore [vR 0, vI 1] (hp w ss cn pl pk pr pn ac st re fg we pc li sl wt pb sh sd rw sn fd i1 w1 sh1 sd1 rw1 sn1 fd1 i2 w2 sh2 sd2 rw2 sn2 fd2 wd R) (some (vI 1)) (hp w2 ss cn pl pk pr pn ac st re fg we pc li sl wt pb sh2 sd2 rw sn2 fd i1 w1 sh1 sd1 rw1 sn1 fd1 i2 w2 sh2 sd2 rw2 sn2 fd2 wd R) := by
  subst z
  have sK : Sp xs m_Image_giveBack [vR 29, vR 1, vR 17] (hp w ss cn pl pk pr pn ac st re fg we pc li sl wt pb sh sd rw sn fd i1 w1 sh1 sd1 rw1 sn1 fd1 1 w2 sh2 sd2 rw2 sn2 fd2 wd R) (some (vI 1)) (hp w2 ss cn pl pk pr pn ac st re fg we pc li sl wt pb sh2 sd2 rw sn2 fd i1 w1 sh1 sd1 rw1 sn1 fd1 1 w2 sh2 sd2 rw2 sn2 fd2 wd R) := sp_giveBack_t (by omega) hp_I2 hp_T hw.1 hp_T2 hw2 hp_S hO hp_S2 hO2
  refine en_F_restore ?_
  refine r_iload_n cd_F_restore_0 rfl ?_
  refine r_cv1 cd_F_restore_1 rfl ck_F_restore_F_isBit rfl (Nat.le_of_ble_eq_true rfl) (by have e9 := sp_isBit (xs := xs) (h := (hp w ss cn pl pk pr pn ac st re fg we pc li sl wt pb sh sd rw sn fd i1 w1 sh1 sd1 rw1 sn1 fd1 1 w2 sh2 sd2 rw2 sn2 fd2 wd R)) (v := 1) ⟨by decide, by decide⟩; rw [bp_t (Or.inr rfl)] at e9; exact e9) ?_
  refine r_if_ne cd_F_restore_4 ⟨by decide, by decide⟩ (fun _ => ?_) (fun c_4 => absurd c_4 (by decide))
  refine r_aload_n cd_F_restore_10 rfl ?_
  refine r_iload_n cd_F_restore_11 rfl ?_
  refine r_vv1 cd_F_restore_12 rfl ck_F_restore_F_imageOf (Nat.le_of_ble_eq_true rfl) hp_0 rfl sp_imageOf_1 ?_
  refine r_aload_n cd_F_restore_15 rfl ?_
  refine r_getfield cd_F_restore_16 hp_0 rfl ?_
  refine r_aload_n cd_F_restore_19 rfl ?_
  refine r_getfield cd_F_restore_20 hp_0 rfl ?_
  refine r_vv2 cd_F_restore_23 rfl ck_F_restore_Image_giveBack (Nat.le_of_ble_eq_true rfl) hp_I2 rfl sK ?_
  refine r_if_eq cd_F_restore_26 ⟨by decide, by decide⟩ (fun c_26 => absurd c_26 (by decide)) (fun _ => ?_)
  refine r_iconst cd_F_restore_29 ?_
  refine r_goto cd_F_restore_30 ?_
  exact r_iret cd_F_restore_35 rt_F_restore (by rfl) (by rfl)
-- told
def tnA (w : List Int) (what : Int) : Int := if 10 ≤ what ∧ what ≤ 11 then at_ w (18 + (what - 10)) else if 20 ≤ what ∧ what ≤ 27 then at_ w (what - 20) else if 100 ≤ what ∧ what ≤ 179 then (if (what - 100) % 10 < men ((what - 100) / 10) then pos w ((what - 100) / 10) ((what - 100) % 10) else -2) else -2
theorem sp_toldByNumber {what : Int} (hw : WF w) (hx : inR what) : Sp xs m_F_toldByNumber [vR 0, vI what] (hp w ss cn pl pk pr pn ac st re fg we pc li sl wt pb sh sd rw sn fd i1 w1 sh1 sd1 rw1 sn1 fd1 i2 w2 sh2 sd2 rw2 sn2 fd2 wd R) (some (vI (tnA w what))) (hp w ss cn pl pk pr pn ac st re fg we pc li sl wt pb sh sd rw sn fd i1 w1 sh1 sd1 rw1 sn1 fd1 i2 w2 sh2 sd2 rw2 sn2 fd2 wd R) := by
  obtain ⟨a1, a2⟩ := id hx
  have e1 : 100 ≤ what → (what - 100).tdiv 10 = (what - 100) / 10 := fun z => Int.tdiv_eq_ediv_of_nonneg (by omega)
  have e2 : 100 ≤ what → (what - 100).tmod 10 = (what - 100) % 10 := fun z => Int.tmod_eq_emod_of_nonneg (by omega)
  unfold tnA
  have fin : 100 ≤ what ∧ what ≤ 179 → ∀ x2 x3, x2 = (what - 100) / 10 → x3 = (what - 100) % 10 → Rn xs m_F_toldByNumber 77 [vR 0, vI what, vI x2, vI x3] [] (hp w ss cn pl pk pr pn ac st re fg we pc li sl wt pb sh sd rw sn fd i1 w1 sh1 sd1 rw1 sn1 fd1 i2 w2 sh2 sd2 rw2 sn2 fd2 wd R) (some (vI (if (what - 100) % 10 < men ((what - 100) / 10) then pos w ((what - 100) / 10) ((what - 100) % 10) else -2))) (hp w ss cn pl pk pr pn ac st re fg we pc li sl wt pb sh sd rw sn fd i1 w1 sh1 sd1 rw1 sn1 fd1 i2 w2 sh2 sd2 rw2 sn2 fd2 wd R) := by
    intro z x2 x3 h2 h3
    subst h2; subst h3
    refine r_iload_n cd_F_toldByNumber_77 rfl ?_
    refine r_iload_n cd_F_toldByNumber_78 rfl ?_
    refine r_cv2 cd_F_toldByNumber_79 rfl ck_F_toldByNumber_Rods_isMan rfl (Nat.le_of_ble_eq_true rfl) (sp_Rods_isMan (by constructor <;> omega) (by constructor <;> omega)) ?_
    refine r_ifeq_p cd_F_toldByNumber_82 (fun c_82 => ?_) (fun c_82 => ?_)
    · skip
      refine r_bipush cd_F_toldByNumber_97 ?_
      exact r_iret cd_F_toldByNumber_99 rt_F_toldByNumber (by first | (rw [if_pos c_82.2.2.2]; done) | (rw [if_neg (by omega)]; done)) (by rfl)
    · skip
      refine r_aload_n cd_F_toldByNumber_85 rfl ?_
      refine r_getfield cd_F_toldByNumber_86 hp_0 rfl ?_
      refine r_iload_n cd_F_toldByNumber_89 rfl ?_
      refine r_iload_n cd_F_toldByNumber_90 rfl ?_
      refine r_vv2 cd_F_toldByNumber_91 rfl ck_F_toldByNumber_Table_placeOf (Nat.le_of_ble_eq_true rfl) hp_T.1 rfl (sp_placeOf hp_T hw (by omega) (by omega)) ?_
      refine r_goto cd_F_toldByNumber_94 ?_
      exact r_iret cd_F_toldByNumber_99 rt_F_toldByNumber (by first | (rw [if_pos c_82.2.2.2]; done) | (rw [if_neg (by omega)]; done)) (by rfl)
  refine en_F_toldByNumber ?_
  refine r_iload_n cd_F_toldByNumber_0 rfl ?_
  refine r_bipush cd_F_toldByNumber_1 ?_
  refine r_bipush cd_F_toldByNumber_3 ?_
  refine r_cv3 cd_F_toldByNumber_5 rfl ck_F_toldByNumber_F_isWithin rfl (Nat.le_of_ble_eq_true rfl) (sp_isWithin hx ⟨by decide, by decide⟩ ⟨by decide, by decide⟩) ?_
  refine r_ifeq_p cd_F_toldByNumber_8 (fun c_8 => ?_) (fun c_8 => ?_)
  · skip
    refine r_iload_n cd_F_toldByNumber_23 rfl ?_
    refine r_bipush cd_F_toldByNumber_24 ?_
    refine r_bipush cd_F_toldByNumber_26 ?_
    refine r_cv3 cd_F_toldByNumber_28 rfl ck_F_toldByNumber_F_isWithin rfl (Nat.le_of_ble_eq_true rfl) (sp_isWithin hx ⟨by decide, by decide⟩ ⟨by decide, by decide⟩) ?_
    refine r_ifeq_p cd_F_toldByNumber_31 (fun c_31 => ?_) (fun c_31 => ?_)
    · skip
      refine r_iload_n cd_F_toldByNumber_46 rfl ?_
      refine r_bipush cd_F_toldByNumber_47 ?_
      refine r_sipush cd_F_toldByNumber_49 ?_
      refine r_cv3 cd_F_toldByNumber_52 rfl ck_F_toldByNumber_F_isWithin rfl (Nat.le_of_ble_eq_true rfl) (sp_isWithin hx ⟨by decide, by decide⟩ ⟨by decide, by decide⟩) ?_
      refine r_ifne_p cd_F_toldByNumber_55 (fun c_55 => ?_) (fun c_55 => ?_)
      · skip
        refine r_iload_n cd_F_toldByNumber_61 rfl ?_
        refine r_bipush cd_F_toldByNumber_62 ?_
        refine r_isub cd_F_toldByNumber_64 ?_
        refine r_bipush cd_F_toldByNumber_65 ?_
        refine r_idiv cd_F_toldByNumber_67 ⟨by omega, by omega⟩ ⟨by decide, by decide⟩ (by decide) ?_
        refine r_istoren4_2 cd_F_toldByNumber_68 rfl ?_
        refine r_iload_n cd_F_toldByNumber_69 rfl ?_
        refine r_bipush cd_F_toldByNumber_70 ?_
        refine r_isub cd_F_toldByNumber_72 ?_
        refine r_bipush cd_F_toldByNumber_73 ?_
        refine r_irem cd_F_toldByNumber_75 ⟨by omega, by omega⟩ ⟨by decide, by decide⟩ (by decide) ?_
        refine r_istoren4_3 cd_F_toldByNumber_76 rfl ?_
        (rw [if_neg c_8, if_neg c_31, if_pos c_55]; exact fin c_55 _ _ (e1 c_55.1) (e2 c_55.1))
      · skip
        refine r_bipush cd_F_toldByNumber_58 ?_
        exact r_iret cd_F_toldByNumber_60 rt_F_toldByNumber (by rw [if_neg c_8, if_neg c_31, if_neg c_55]) (by rfl)
    · skip
      refine r_aload_n cd_F_toldByNumber_34 rfl ?_
      refine r_getfield cd_F_toldByNumber_35 hp_0 rfl ?_
      refine r_iload_n cd_F_toldByNumber_38 rfl ?_
      refine r_bipush cd_F_toldByNumber_39 ?_
      refine r_isub cd_F_toldByNumber_41 ?_
      refine r_vv1 cd_F_toldByNumber_42 rfl ck_F_toldByNumber_Table_slideOf (Nat.le_of_ble_eq_true rfl) hp_T.1 rfl (sp_slideOf hp_T hw (by omega) (by omega)) ?_
      exact r_iret cd_F_toldByNumber_45 rt_F_toldByNumber (by rw [if_neg c_8, if_pos c_31]) (by rfl)
  · skip
    refine r_aload_n cd_F_toldByNumber_11 rfl ?_
    refine r_getfield cd_F_toldByNumber_12 hp_0 rfl ?_
    refine r_iload_n cd_F_toldByNumber_15 rfl ?_
    refine r_bipush cd_F_toldByNumber_16 ?_
    refine r_isub cd_F_toldByNumber_18 ?_
    refine r_vv1 cd_F_toldByNumber_19 rfl ck_F_toldByNumber_Table_scoredBy (Nat.le_of_ble_eq_true rfl) hp_T.1 rfl (sp_scoredBy hp_T (by omega)) ?_
    exact r_iret cd_F_toldByNumber_22 rt_F_toldByNumber (by rw [if_pos c_8]) (by rfl)
def toA (w : List Int) (cn sn what : Int) : Int := if what = 0 then cn else if what = 1 then hbits w else if what = 2 then at_ w 16 else if what = 3 then at_ w 17 else if what = 4 then at_ w 20 else if what = 5 then sn else tnA w what
theorem sp_F_told {what : Int} (hp0 : PdOK ss cn pl) (hw : WF w) (hx : inR what) : Sp xs m_F_told [vR 0, vI what] (hp w ss cn pl pk pr pn ac st re fg we pc li sl wt pb sh sd rw sn fd i1 w1 sh1 sd1 rw1 sn1 fd1 i2 w2 sh2 sd2 rw2 sn2 fd2 wd R) (some (vI (toA w cn sn what))) (hp w ss cn pl pk pr pn ac st re fg we pc li sl wt pb sh sd rw sn fd i1 w1 sh1 sd1 rw1 sn1 fd1 i2 w2 sh2 sd2 rw2 sn2 fd2 wd R) := by
  obtain ⟨a1, a2⟩ := id hx
  refine en_F_told ?_
  refine r_iload_n cd_F_told_0 rfl ?_
  by_cases s_1_0 : what = 0
  · skip
    rw [s_1_0]
    refine r_switch (t := 40) cd_F_told_1 ⟨by decide, by decide⟩ (by decide) ?_
    refine r_aload_n cd_F_told_40 rfl ?_
    refine r_getfield cd_F_told_41 hp_0 rfl ?_
    refine r_vv0 cd_F_told_44 rfl ck_F_told_Pad_size (Nat.le_of_ble_eq_true rfl) (hp_P hp0).1 rfl (sp_Pad_size (hp_P hp0)) ?_
    exact r_iret cd_F_told_47 rt_F_told (by first | rfl | (unfold toA; rw [if_neg (by omega), if_neg (by omega), if_neg (by omega), if_neg (by omega), if_neg (by omega), if_neg (by omega)])) (by rfl)
  by_cases s_1_1 : what = 1
  · skip
    rw [s_1_1]
    refine r_switch (t := 48) cd_F_told_1 ⟨by decide, by decide⟩ (by decide) ?_
    refine r_aload_n cd_F_told_48 rfl ?_
    refine r_getfield cd_F_told_49 hp_0 rfl ?_
    refine r_vv0 cd_F_told_52 rfl ck_F_told_Table_heldRods (Nat.le_of_ble_eq_true rfl) hp_T.1 rfl (sp_heldRods hp_T) ?_
    exact r_iret cd_F_told_55 rt_F_told (by first | rfl | (unfold toA; rw [if_neg (by omega), if_neg (by omega), if_neg (by omega), if_neg (by omega), if_neg (by omega), if_neg (by omega)])) (by rfl)
  by_cases s_1_2 : what = 2
  · skip
    rw [s_1_2]
    refine r_switch (t := 56) cd_F_told_1 ⟨by decide, by decide⟩ (by decide) ?_
    refine r_aload_n cd_F_told_56 rfl ?_
    refine r_getfield cd_F_told_57 hp_0 rfl ?_
    refine r_vv0 cd_F_told_60 rfl ck_F_told_Table_ballRod (Nat.le_of_ble_eq_true rfl) hp_T.1 rfl (sp_ballRod hp_T) ?_
    exact r_iret cd_F_told_63 rt_F_told (by first | rfl | (unfold toA; rw [if_neg (by omega), if_neg (by omega), if_neg (by omega), if_neg (by omega), if_neg (by omega), if_neg (by omega)])) (by rfl)
  by_cases s_1_3 : what = 3
  · skip
    rw [s_1_3]
    refine r_switch (t := 64) cd_F_told_1 ⟨by decide, by decide⟩ (by decide) ?_
    refine r_aload_n cd_F_told_64 rfl ?_
    refine r_getfield cd_F_told_65 hp_0 rfl ?_
    refine r_vv0 cd_F_told_68 rfl ck_F_told_Table_ballMan (Nat.le_of_ble_eq_true rfl) hp_T.1 rfl (sp_ballMan hp_T) ?_
    exact r_iret cd_F_told_71 rt_F_told (by first | rfl | (unfold toA; rw [if_neg (by omega), if_neg (by omega), if_neg (by omega), if_neg (by omega), if_neg (by omega), if_neg (by omega)])) (by rfl)
  by_cases s_1_4 : what = 4
  · skip
    rw [s_1_4]
    refine r_switch (t := 72) cd_F_told_1 ⟨by decide, by decide⟩ (by decide) ?_
    refine r_aload_n cd_F_told_72 rfl ?_
    refine r_getfield cd_F_told_73 hp_0 rfl ?_
    refine r_vv0 cd_F_told_76 rfl ck_F_told_Table_tenth (Nat.le_of_ble_eq_true rfl) hp_T.1 rfl (sp_tenth hp_T) ?_
    exact r_iret cd_F_told_79 rt_F_told (by first | rfl | (unfold toA; rw [if_neg (by omega), if_neg (by omega), if_neg (by omega), if_neg (by omega), if_neg (by omega), if_neg (by omega)])) (by rfl)
  by_cases s_1_5 : what = 5
  · skip
    rw [s_1_5]
    refine r_switch (t := 80) cd_F_told_1 ⟨by decide, by decide⟩ (by decide) ?_
    refine r_aload_n cd_F_told_80 rfl ?_
    refine r_getfield cd_F_told_81 hp_0 rfl ?_
    refine r_vv0 cd_F_told_84 rfl ck_F_told_Sights_size (Nat.le_of_ble_eq_true rfl) hp_S.1 rfl (sp_Sights_size hp_S) ?_
    exact r_iret cd_F_told_87 rt_F_told (by first | rfl | (unfold toA; rw [if_neg (by omega), if_neg (by omega), if_neg (by omega), if_neg (by omega), if_neg (by omega), if_neg (by omega)])) (by rfl)
  refine r_switch (t := 88) cd_F_told_1 ⟨by omega, by omega⟩ (by unfold swT; rw [if_pos (by omega)]; rfl) ?_
  refine r_aload_n cd_F_told_88 rfl ?_
  refine r_iload_n cd_F_told_89 rfl ?_
  refine r_vv1 cd_F_told_90 rfl ck_F_told_F_toldByNumber (Nat.le_of_ble_eq_true rfl) hp_0 rfl (sp_toldByNumber hw hx) ?_
  exact r_iret cd_F_told_93 rt_F_told (by first | rfl | (unfold toA; rw [if_neg (by omega), if_neg (by omega), if_neg (by omega), if_neg (by omega), if_neg (by omega), if_neg (by omega)])) (by rfl)
end C63
