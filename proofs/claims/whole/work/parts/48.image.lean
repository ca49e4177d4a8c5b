-- contracts of Image: now at 1, the sights at 17, an image at g
section C48
variable {xs : List Int} {h : MH} {g q t : Nat} {w wI sh sd rw shI sdI rwI : List Int} {cn fd cnI fdI kp9 : Int}
theorem sg_tne {u : Nat} {v : List Int} (hS : SgAt h q sh sd rw cn fd) (hn : q + 4 ≤ u ∨ u + 3 ≤ q) : SgAt (tset h u v) q sh sd rw cn fd := ⟨(tset_ne (by omega) (by omega) (by omega)).trans hS.1, (tset_ne (by omega) (by omega) (by omega)).trans hS.2.1, (tset_ne (by omega) (by omega) (by omega)).trans hS.2.2.1, (tset_ne (by omega) (by omega) (by omega)).trans hS.2.2.2⟩
theorem sg_sne {p : Nat} {c : HC} (hS : SgAt h q sh sd rw cn fd) (hn : p < q ∨ q + 4 ≤ p) : SgAt (h.set p c) q sh sd rw cn fd := ⟨gs_ne (by omega) hS.1, gs_ne (by omega) hS.2.1, gs_ne (by omega) hS.2.2.1, gs_ne (by omega) hS.2.2.2⟩
def iobj (g : Nat) (k : Int) : HC := .inl (2, [vR (g + 1), vR (g + 4), vI k])
def scp (h : MH) (q : Nat) (sh sd : List Int) (cn fd : Int) : MH := ((h.set q (sobj q cn fd)).set (q + 1) (.inr (0, sh))).set (q + 2) (.inr (0, sd))
theorem sp_keep (hg : 21 ≤ g) (hI : h[g]? = some (iobj g kp9)) (hT : TabAt h 1 w) (lw : w.length = 21) (hTI : TabAt h (g + 1) wI) (lwI : wI.length = 21) (hS : SgAt h 17 sh sd rw cn fd) (hO : SgOK sh sd rw cn fd) (hSI : SgAt h (g + 4) shI sdI rwI cnI fdI) (hOI : SgOK shI sdI rwI cnI fdI) : Sp xs m_Image_keep [vR g, vR 1, vR 17] h none ((scp (tset h (g + 1) w) (g + 4) sh sd cn fdI).set g (iobj g 1)) := by
  have a1 : (tset h (g + 1) w)[g]? = some (iobj g kp9) := (tset_ne (by omega) (by omega) (by omega)).trans hI
  have a2 := sg_tne (u := g + 1) (v := w) hS (by omega)
  have a3 := sg_tne (u := g + 1) (v := w) hSI (by omega)
  have b1 : (scp (tset h (g + 1) w) (g + 4) sh sd cn fdI)[g]? = some (iobj g kp9) := gs_ne (by omega) (gs_ne (by omega) (gs_ne (by omega) a1))
  have t2 : Rn xs m_Image_keep 16 [vR g, vR 1, vR 17] [] (scp (tset h (g + 1) w) (g + 4) sh sd cn fdI) none ((scp (tset h (g + 1) w) (g + 4) sh sd cn fdI).set g (iobj g 1)) := by
    refine r_aload_n cd_Image_keep_16 rfl ?_
    refine r_iconst cd_Image_keep_17 ?_
    refine r_putfield cd_Image_keep_18 b1 (Nat.le_of_ble_eq_true rfl) rfl ?_
    exact r_vret cd_Image_keep_21 rt_Image_keep (by rfl)
  have t1 : Rn xs m_Image_keep 8 [vR g, vR 1, vR 17] [] (tset h (g + 1) w) none ((scp (tset h (g + 1) w) (g + 4) sh sd cn fdI).set g (iobj g 1)) := by
    refine r_aload_n cd_Image_keep_8 rfl ?_
    refine r_getfield cd_Image_keep_9 a1 rfl ?_
    refine r_aload_n cd_Image_keep_12 rfl ?_
    refine r_vz1 cd_Image_keep_13 rfl ck_Image_keep_Sights_copyFrom (Nat.le_of_ble_eq_true rfl) a3.1 rfl (sp_Sights_copyFrom (by omega) a3 hOI a2 hO) ?_
    exact t2
  refine en_Image_keep ?_
  refine r_aload_n cd_Image_keep_0 rfl ?_
  refine r_getfield cd_Image_keep_1 hI rfl ?_
  refine r_aload_n cd_Image_keep_4 rfl ?_
  refine r_vz1 cd_Image_keep_5 rfl ck_Image_keep_Table_copyFrom (Nat.le_of_ble_eq_true rfl) hTI.1 rfl (sp_copyFrom (by omega) hTI hT lwI lw) ?_
  exact t1
theorem sp_giveBack_f (hI : h[g]? = some (iobj g 0)) : Sp xs m_Image_giveBack [vR g, vR 1, vR 17] h (some (vI 0)) h := by
  refine en_Image_giveBack ?_
  refine r_aload_n cd_Image_giveBack_0 rfl ?_
  refine r_getfield cd_Image_giveBack_1 hI rfl ?_
  refine r_if_eq cd_Image_giveBack_4 ⟨by omega, by omega⟩ (fun c_4 => ?_) (fun c_4 => ?_)
  · skip
    refine r_iconst cd_Image_giveBack_15 ?_
    exact r_zretc cd_Image_giveBack_16 rt_Image_giveBack (by decide) (by first | rfl | omega | (split <;> first | rfl | omega)) (by rfl)
  · skip
    refine r_aload_n cd_Image_giveBack_7 rfl ?_
    first | exact absurd rfl c_4 | omega
theorem sp_giveBack_t (hg : 21 ≤ g) (hI : h[g]? = some (iobj g 1)) (hT : TabAt h 1 w) (lw : w.length = 21) (hTI : TabAt h (g + 1) wI) (lwI : wI.length = 21) (hS : SgAt h 17 sh sd rw cn fd) (hO : SgOK sh sd rw cn fd) (hSI : SgAt h (g + 4) shI sdI rwI cnI fdI) (hOI : SgOK shI sdI rwI cnI fdI) : Sp xs m_Image_giveBack [vR g, vR 1, vR 17] h (some (vI 1)) (scp (tset h 1 wI) 17 shI sdI cnI fd) := by
  have a1 : (tset h 1 wI)[g]? = some (iobj g 1) := (tset_ne (by omega) (by omega) (by omega)).trans hI
  have a2 := sg_tne (u := 1) (v := wI) hS (by omega)
  have a3 := sg_tne (u := 1) (v := wI) hSI (by omega)
  have t1 : Rn xs m_Image_giveBack 25 [vR g, vR 1, vR 17] [] (tset h 1 wI) (some (vI 1)) (scp (tset h 1 wI) 17 shI sdI cnI fd) := by
    refine r_aload_n cd_Image_giveBack_25 rfl ?_
    refine r_aload_n cd_Image_giveBack_26 rfl ?_
    refine r_getfield cd_Image_giveBack_27 a1 rfl ?_
    refine r_vz1 cd_Image_giveBack_30 rfl ck_Image_giveBack_Sights_copyFrom (Nat.le_of_ble_eq_true rfl) a2.1 rfl (sp_Sights_copyFrom (by omega) a2 hO a3 hOI) ?_
    refine r_iconst cd_Image_giveBack_33 ?_
    exact r_zretc cd_Image_giveBack_34 rt_Image_giveBack (by decide) (by first | rfl | omega | (split <;> first | rfl | omega)) (by rfl)
  refine en_Image_giveBack ?_
  refine r_aload_n cd_Image_giveBack_0 rfl ?_
  refine r_getfield cd_Image_giveBack_1 hI rfl ?_
  refine r_if_eq cd_Image_giveBack_4 ⟨by omega, by omega⟩ (fun c_4 => ?_) (fun c_4 => ?_)
  · skip
    first | exact absurd c_4 (by decide) | omega
  · skip
    refine r_aload_n cd_Image_giveBack_7 rfl ?_
    refine r_ifnull cd_Image_giveBack_8 ?_
    refine r_aload_n cd_Image_giveBack_11 rfl ?_
    refine r_ifnonnull cd_Image_giveBack_12 ?_
    refine r_aload_n cd_Image_giveBack_17 rfl ?_
    refine r_aload_n cd_Image_giveBack_18 rfl ?_
    refine r_getfield cd_Image_giveBack_19 hI rfl ?_
    refine r_vz1 cd_Image_giveBack_22 rfl ck_Image_giveBack_Table_copyFrom (Nat.le_of_ble_eq_true rfl) hT.1 rfl (sp_copyFrom (by omega) hT hTI lw lwI) ?_
    exact t1
end C48
