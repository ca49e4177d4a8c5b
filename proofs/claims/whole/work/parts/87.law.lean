-- the law: case by case, and the whole script
section C87
variable {xs : List Int} {h : MH}
theorem inv_e {P : Prop} (hI : Inv h) (f : ∀ (w ss : List Int) (cn pl pk pr pn ac st re fg : Int) (we pc : List Int) (li sl : Int) (wt pb sh sd rw : List Int) (sn fd i1 : Int) (w1 sh1 sd1 rw1 : List Int) (sn1 fd1 i2 : Int) (w2 sh2 sd2 rw2 : List Int) (sn2 fd2 : Int) (wd : List Int) (sm om ga mr ma ax : Int) (v sv fa gr ng wy im kp : List Int), CK w ss cn pl we pc wt pb sh sd rw sn fd i1 w1 sh1 sd1 rw1 sn1 fd1 i2 w2 sh2 sd2 rw2 sn2 fd2 wd sv im kp → JL v fa gr ng wy → h = (hp w ss cn pl pk pr pn ac st re fg we pc li sl wt pb sh sd rw sn fd i1 w1 sh1 sd1 rw1 sn1 fd1 i2 w2 sh2 sd2 rw2 sn2 fd2 wd (rf sn cn sm om ga mr ma ax w v sv ss fa gr ng wy im kp)) → P) : P := by
  obtain ⟨w, ss, cn, pl, pk, pr, pn, ac, st, re, fg, we, pc, li, sl, wt, pb, sh, sd, rw, sn, fd, i1, w1, sh1, sd1, rw1, sn1, fd1, i2, w2, sh2, sd2, rw2, sn2, fd2, wd, sm, om, ga, mr, ma, ax, v, sv, fa, gr, ng, wy, im, kp, hC, hJ, e⟩ := hI
  exact f w ss cn pl pk pr pn ac st re fg we pc li sl wt pb sh sd rw sn fd i1 w1 sh1 sd1 rw1 sn1 fd1 i2 w2 sh2 sd2 rw2 sn2 fd2 wd sm om ga mr ma ax v sv fa gr ng wy im kp hC hJ e
theorem inv_r0 (hI : Inv h) : ∃ fs : List MV, h[0]? = some (.inl (7, fs)) := inv_e hI (fun w ss cn pl pk pr pn ac st re fg we pc li sl wt pb sh sd rw sn fd i1 w1 sh1 sd1 rw1 sn1 fd1 i2 w2 sh2 sd2 rw2 sn2 fd2 wd sm om ga mr ma ax v sv fa gr ng wy im kp hC hJ e => ⟨_, by rw [e]; exact hp_0⟩)
theorem sv_slide {a b : Int} (hI : Inv h) (ha : inR a) (hb : inR b) : STP xs m_F_slide m_M_slide [vI a, vI b] h :=
  inv_e hI (fun w ss cn pl pk pr pn ac st re fg we pc li sl wt pb sh sd rw sn fd i1 w1 sh1 sd1 rw1 sn1 fd1 i2 w2 sh2 sd2 rw2 sn2 fd2 wd sm om ga mr ma ax v sv fa gr ng wy im kp hC hJ e => by rw [e]; exact st_slide hC hJ ha hb)
theorem sv_hold {a b : Int} (hI : Inv h) (ha : inR a) (hb : b = 0 ∨ b = 1) : STP xs m_F_hold m_M_hold [vI a, vI b] h :=
  inv_e hI (fun w ss cn pl pk pr pn ac st re fg we pc li sl wt pb sh sd rw sn fd i1 w1 sh1 sd1 rw1 sn1 fd1 i2 w2 sh2 sd2 rw2 sn2 fd2 wd sm om ga mr ma ax v sv fa gr ng wy im kp hC hJ e => by rw [e]; exact st_hold hC hJ ha hb)
theorem sv_ball {a b : Int} (hI : Inv h) (ha : inR a) (hb : inR b) : STP xs m_F_ball m_M_ball [vI a, vI b] h :=
  inv_e hI (fun w ss cn pl pk pr pn ac st re fg we pc li sl wt pb sh sd rw sn fd i1 w1 sh1 sd1 rw1 sn1 fd1 i2 w2 sh2 sd2 rw2 sn2 fd2 wd sm om ga mr ma ax v sv fa gr ng wy im kp hC hJ e => by rw [e]; exact st_ball hC hJ ha hb)
theorem sv_goals {a b : Int} (hI : Inv h) (ha : inR a) (hb : inR b) : STP xs m_F_goals m_M_goals [vI a, vI b] h :=
  inv_e hI (fun w ss cn pl pk pr pn ac st re fg we pc li sl wt pb sh sd rw sn fd i1 w1 sh1 sd1 rw1 sn1 fd1 i2 w2 sh2 sd2 rw2 sn2 fd2 wd sm om ga mr ma ax v sv fa gr ng wy im kp hC hJ e => by rw [e]; exact st_goals hC hJ ha hb)
theorem sv_say {a : Int} (hI : Inv h) (ha : inR a) : STP xs m_F_say m_M_say [vI a] h :=
  inv_e hI (fun w ss cn pl pk pr pn ac st re fg we pc li sl wt pb sh sd rw sn fd i1 w1 sh1 sd1 rw1 sn1 fd1 i2 w2 sh2 sd2 rw2 sn2 fd2 wd sm om ga mr ma ax v sv fa gr ng wy im kp hC hJ e => by rw [e]; exact st_say hC hJ ha)
theorem sv_wipe (hI : Inv h)  : STP xs m_F_wipe m_M_wipe [] h :=
  inv_e hI (fun w ss cn pl pk pr pn ac st re fg we pc li sl wt pb sh sd rw sn fd i1 w1 sh1 sd1 rw1 sn1 fd1 i2 w2 sh2 sd2 rw2 sn2 fd2 wd sm om ga mr ma ax v sv fa gr ng wy im kp hC hJ e => by rw [e]; exact st_wipe hC hJ )
theorem sv_fault (hI : Inv h)  : STP xs m_F_fault m_M_fault [] h :=
  inv_e hI (fun w ss cn pl pk pr pn ac st re fg we pc li sl wt pb sh sd rw sn fd i1 w1 sh1 sd1 rw1 sn1 fd1 i2 w2 sh2 sd2 rw2 sn2 fd2 wd sm om ga mr ma ax v sv fa gr ng wy im kp hC hJ e => by rw [e]; exact st_fault hC hJ )
theorem sv_judge {a : Int} (hI : Inv h) (ha : inR a) : STP xs m_F_judge m_M_judge [vI a] h :=
  inv_e hI (fun w ss cn pl pk pr pn ac st re fg we pc li sl wt pb sh sd rw sn fd i1 w1 sh1 sd1 rw1 sn1 fd1 i2 w2 sh2 sd2 rw2 sn2 fd2 wd sm om ga mr ma ax v sv fa gr ng wy im kp hC hJ e => by rw [e]; exact st_judge hC hJ ha)
theorem sv_done (hI : Inv h)  : STP xs m_F_done m_M_done [] h :=
  inv_e hI (fun w ss cn pl pk pr pn ac st re fg we pc li sl wt pb sh sd rw sn fd i1 w1 sh1 sd1 rw1 sn1 fd1 i2 w2 sh2 sd2 rw2 sn2 fd2 wd sm om ga mr ma ax v sv fa gr ng wy im kp hC hJ e => by rw [e]; exact st_done hC hJ )
theorem sv_behind {a b : Int} (hI : Inv h) (ha : inR a) (hb : inR b) : STP xs m_F_behind m_M_behind [vI a, vI b] h :=
  inv_e hI (fun w ss cn pl pk pr pn ac st re fg we pc li sl wt pb sh sd rw sn fd i1 w1 sh1 sd1 rw1 sn1 fd1 i2 w2 sh2 sd2 rw2 sn2 fd2 wd sm om ga mr ma ax v sv fa gr ng wy im kp hC hJ e => by rw [e]; exact st_behind hC hJ ha hb)
theorem sv_then {a : Int} (hI : Inv h) (ha : inR a) : STP xs m_F_then m_M_then [vI a] h :=
  inv_e hI (fun w ss cn pl pk pr pn ac st re fg we pc li sl wt pb sh sd rw sn fd i1 w1 sh1 sd1 rw1 sn1 fd1 i2 w2 sh2 sd2 rw2 sn2 fd2 wd sm om ga mr ma ax v sv fa gr ng wy im kp hC hJ e => by rw [e]; exact st_then hC hJ ha)
theorem sv_ends {a : Int} (hI : Inv h) (ha : inR a) : STP xs m_F_ends m_M_ends [vI a] h :=
  inv_e hI (fun w ss cn pl pk pr pn ac st re fg we pc li sl wt pb sh sd rw sn fd i1 w1 sh1 sd1 rw1 sn1 fd1 i2 w2 sh2 sd2 rw2 sn2 fd2 wd sm om ga mr ma ax v sv fa gr ng wy im kp hC hJ e => by rw [e]; exact st_ends hC hJ ha)
theorem sv_goesIn (hI : Inv h)  : STP xs m_F_goesIn m_M_goesIn [] h :=
  inv_e hI (fun w ss cn pl pk pr pn ac st re fg we pc li sl wt pb sh sd rw sn fd i1 w1 sh1 sd1 rw1 sn1 fd1 i2 w2 sh2 sd2 rw2 sn2 fd2 wd sm om ga mr ma ax v sv fa gr ng wy im kp hC hJ e => by rw [e]; exact st_goesIn hC hJ )
theorem sv_path {a b c : Int} (hI : Inv h) (ha : inR a) (hb : inR b) (hc : inR c) : STP xs m_F_path m_M_path [vI a, vI b, vI c] h :=
  inv_e hI (fun w ss cn pl pk pr pn ac st re fg we pc li sl wt pb sh sd rw sn fd i1 w1 sh1 sd1 rw1 sn1 fd1 i2 w2 sh2 sd2 rw2 sn2 fd2 wd sm om ga mr ma ax v sv fa gr ng wy im kp hC hJ e => by rw [e]; exact st_path hC hJ ha hb hc)
theorem sv_stand {a : Int} (hI : Inv h) (ha : inR a) : STP xs m_F_stand m_M_stand [vI a] h :=
  inv_e hI (fun w ss cn pl pk pr pn ac st re fg we pc li sl wt pb sh sd rw sn fd i1 w1 sh1 sd1 rw1 sn1 fd1 i2 w2 sh2 sd2 rw2 sn2 fd2 wd sm om ga mr ma ax v sv fa gr ng wy im kp hC hJ e => by rw [e]; exact st_stand hC hJ ha)
theorem sv_mix {a b c d y p : Int} (hI : Inv h) (ha : inR a) (hb : inR b) (hc : inR c) (hd : inR d) (hy : inR y) (hp : inR p) : STL xs m_F_mix m_M_mix [vI a, vI b, vI c, vI d, vI y, vI p] h :=
  inv_e hI (fun w ss cn pl pk pr pn ac st re fg we pc li sl wt pb sh sd rw sn fd i1 w1 sh1 sd1 rw1 sn1 fd1 i2 w2 sh2 sd2 rw2 sn2 fd2 wd sm om ga mr ma ax v sv fa gr ng wy im kp hC hJ e => by rw [e]; exact st_mix hC hJ ha hb hc hd hy hp)
theorem sv_hands {a b : Int} (hI : Inv h) (ha : inR a) (hb : inR b) : STP xs m_F_hands m_M_hands [vI a, vI b] h :=
  inv_e hI (fun w ss cn pl pk pr pn ac st re fg we pc li sl wt pb sh sd rw sn fd i1 w1 sh1 sd1 rw1 sn1 fd1 i2 w2 sh2 sd2 rw2 sn2 fd2 wd sm om ga mr ma ax v sv fa gr ng wy im kp hC hJ e => by rw [e]; exact st_hands hC hJ ha hb)
theorem sv_truly {a b c d y : Int} (hI : Inv h) (ha : inR a) (hb : inR b) (hc : inR c) (hd : inR d) (hy : inR y) : STL xs m_F_truly m_M_truly [vI a, vI b, vI c, vI d, vI y] h :=
  inv_e hI (fun w ss cn pl pk pr pn ac st re fg we pc li sl wt pb sh sd rw sn fd i1 w1 sh1 sd1 rw1 sn1 fd1 i2 w2 sh2 sd2 rw2 sn2 fd2 wd sm om ga mr ma ax v sv fa gr ng wy im kp hC hJ e => by rw [e]; exact st_truly hC hJ ha hb hc hd hy)
theorem sv_race {a b c d : Int} (hI : Inv h) (ha : inR a) (hb : inR b) (hc : inR c) (hd : inR d) : STL xs m_F_race m_M_race [vI a, vI b, vI c, vI d] h :=
  inv_e hI (fun w ss cn pl pk pr pn ac st re fg we pc li sl wt pb sh sd rw sn fd i1 w1 sh1 sd1 rw1 sn1 fd1 i2 w2 sh2 sd2 rw2 sn2 fd2 wd sm om ga mr ma ax v sv fa gr ng wy im kp hC hJ e => by rw [e]; exact st_race hC hJ ha hb hc hd)
theorem sv_seen {a b : Int} (hI : Inv h) (ha : inR a) (hb : b = 0 ∨ b = 1) : STP xs m_F_seen m_M_seen [vI a, vI b] h :=
  inv_e hI (fun w ss cn pl pk pr pn ac st re fg we pc li sl wt pb sh sd rw sn fd i1 w1 sh1 sd1 rw1 sn1 fd1 i2 w2 sh2 sd2 rw2 sn2 fd2 wd sm om ga mr ma ax v sv fa gr ng wy im kp hC hJ e => by rw [e]; exact st_seen hC hJ ha hb)
theorem sv_forget (hI : Inv h)  : STP xs m_F_forget m_M_forget [] h :=
  inv_e hI (fun w ss cn pl pk pr pn ac st re fg we pc li sl wt pb sh sd rw sn fd i1 w1 sh1 sd1 rw1 sn1 fd1 i2 w2 sh2 sd2 rw2 sn2 fd2 wd sm om ga mr ma ax v sv fa gr ng wy im kp hC hJ e => by rw [e]; exact st_forget hC hJ )
theorem sv_fits {a : Int} (hI : Inv h) (ha : inR a) : STP xs m_F_fits m_M_fits [vI a] h :=
  inv_e hI (fun w ss cn pl pk pr pn ac st re fg we pc li sl wt pb sh sd rw sn fd i1 w1 sh1 sd1 rw1 sn1 fd1 i2 w2 sh2 sd2 rw2 sn2 fd2 wd sm om ga mr ma ax v sv fa gr ng wy im kp hC hJ e => by rw [e]; exact st_fits hC hJ ha)
theorem sv_ask {a : Int} (hI : Inv h) (ha : inR a) : STP xs m_F_ask m_M_ask [vI a] h :=
  inv_e hI (fun w ss cn pl pk pr pn ac st re fg we pc li sl wt pb sh sd rw sn fd i1 w1 sh1 sd1 rw1 sn1 fd1 i2 w2 sh2 sd2 rw2 sn2 fd2 wd sm om ga mr ma ax v sv fa gr ng wy im kp hC hJ e => by rw [e]; exact st_ask hC hJ ha)
theorem sv_year {a b c : Int} (hI : Inv h) (ha : inR a) (hb : inR b) (hc : inR c) : STP xs m_F_year m_M_year [vI a, vI b, vI c] h :=
  inv_e hI (fun w ss cn pl pk pr pn ac st re fg we pc li sl wt pb sh sd rw sn fd i1 w1 sh1 sd1 rw1 sn1 fd1 i2 w2 sh2 sd2 rw2 sn2 fd2 wd sm om ga mr ma ax v sv fa gr ng wy im kp hC hJ e => by rw [e]; exact st_year hC hJ ha hb hc)
theorem sv_image {a : Int} (hI : Inv h) (ha : inR a) : STP xs m_F_image m_M_image [vI a] h :=
  inv_e hI (fun w ss cn pl pk pr pn ac st re fg we pc li sl wt pb sh sd rw sn fd i1 w1 sh1 sd1 rw1 sn1 fd1 i2 w2 sh2 sd2 rw2 sn2 fd2 wd sm om ga mr ma ax v sv fa gr ng wy im kp hC hJ e => by rw [e]; exact st_image hC hJ ha)
theorem sv_restore {a : Int} (hI : Inv h) (ha : inR a) : STP xs m_F_restore m_M_restore [vI a] h :=
  inv_e hI (fun w ss cn pl pk pr pn ac st re fg we pc li sl wt pb sh sd rw sn fd i1 w1 sh1 sd1 rw1 sn1 fd1 i2 w2 sh2 sd2 rw2 sn2 fd2 wd sm om ga mr ma ax v sv fa gr ng wy im kp hC hJ e => by rw [e]; exact st_restore hC hJ ha)
theorem sv_told {a : Int} (hI : Inv h) (ha : inR a) : STP xs m_F_told m_M_told [vI a] h :=
  inv_e hI (fun w ss cn pl pk pr pn ac st re fg we pc li sl wt pb sh sd rw sn fd i1 w1 sh1 sd1 rw1 sn1 fd1 i2 w2 sh2 sd2 rw2 sn2 fd2 wd sm om ga mr ma ax v sv fa gr ng wy im kp hC hJ e => by rw [e]; exact st_told hC hJ ha)
theorem at_in (hx : ∀ z ∈ xs, inR z) {j : Int} (h0 : 0 ≤ j) (h1 : j < (xs.length : Int)) : inR (at_ xs j) := by
  unfold at_
  rw [List.getD_eq_getElem?_getD, List.getElem?_eq_getElem (by omega)]
  exact hx _ (List.getElem_mem _)
theorem and31 (x : Int) : 0 ≤ bAnd x 31 ∧ bAnd x 31 ≤ 31 := by
  have h : (Int32.ofInt x &&& Int32.ofInt 31).toBitVec.toNat ≤ 31 := by
    rw [Int32.toBitVec_and, BitVec.toNat_and]
    exact Nat.le_trans Nat.and_le_right (by decide)
  have e : bAnd x 31 = (((Int32.ofInt x &&& Int32.ofInt 31).toBitVec.toNat : Nat) : Int) := by
    unfold bAnd
    rw [← Int32.toInt_toBitVec, BitVec.toInt_eq_toNat_of_lt (by omega)]
  rw [e]
  omega
theorem lcm_r (r : Int) : lcm r r = 0 := by
  unfold lcm
  rw [if_neg (by omega), if_pos rfl]
def LE (xs : List Int) (pc : Nat) (i : Int) (h : MH) : Prop := ∃ h' : MH, Inv h' ∧ Rn xs m_Law_law pc [vS 3, vR 0, vR 40, vI i] [] h (some (vI 1)) h'
def LE2 (xs : List Int) (i : Int) (h : MH) : Prop := ∃ h' : MH, Inv h' ∧ Rn xs m_Law_law 33 [vS 3, vR 0, vR 40, vI i] [vI (bAnd (at_ xs i) 31)] h (some (vI 1)) h'
theorem lw_slide {i : Int} (hx : ∀ z ∈ xs, inR z) (i0 : 0 ≤ i) (i1 : i ≤ (xs.length : Int) - 7) (hL : xs.length ≤ 448) (hI : Inv h) (e : ∀ h2 : MH, Inv h2 → LE xs 994 i h2) : LE xs 156 i h := by
  obtain ⟨f0, q0⟩ := inv_r0 hI
  obtain ⟨r, h1, h2, hF, hM, h3, hr, fs, hq⟩ := sv_slide (xs := xs) hI (at_in hx (j := i + 1) (by omega) (by omega)) (at_in hx (j := i + 2) (by omega) (by omega))
  obtain ⟨h4, h5, e9⟩ := e h2 h3
  refine ⟨h4, h5, ?_⟩
  obtain ⟨r1, r2⟩ := id hr
  refine r_aload_n cd_Law_law_156 rfl ?_
  refine r_aloadS_n cd_Law_law_157 rfl ?_
  refine r_iload_n cd_Law_law_158 rfl ?_
  refine r_iconst cd_Law_law_159 ?_
  refine r_iadd cd_Law_law_160 ?_
  refine r_ialoadS (l := xs) cd_Law_law_161 rfl (by decide) rfl (by omega) (by omega) (by omega) ?_
  refine r_aloadS_n cd_Law_law_162 rfl ?_
  refine r_iload_n cd_Law_law_163 rfl ?_
  refine r_iconst cd_Law_law_164 ?_
  refine r_iadd cd_Law_law_165 ?_
  refine r_ialoadS (l := xs) cd_Law_law_166 rfl (by decide) rfl (by omega) (by omega) (by omega) ?_
  refine r_vv2 cd_Law_law_167 rfl ck_Law_law_F_slide (Nat.le_of_ble_eq_true rfl) q0 rfl hF ?_
  refine r_aload_n cd_Law_law_170 rfl ?_
  refine r_aloadS_n cd_Law_law_171 rfl ?_
  refine r_iload_n cd_Law_law_172 rfl ?_
  refine r_iconst cd_Law_law_173 ?_
  refine r_iadd cd_Law_law_174 ?_
  refine r_ialoadS (l := xs) cd_Law_law_175 rfl (by decide) rfl (by omega) (by omega) (by omega) ?_
  refine r_aloadS_n cd_Law_law_176 rfl ?_
  refine r_iload_n cd_Law_law_177 rfl ?_
  refine r_iconst cd_Law_law_178 ?_
  refine r_iadd cd_Law_law_179 ?_
  refine r_ialoadS (l := xs) cd_Law_law_180 rfl (by decide) rfl (by omega) (by omega) (by omega) ?_
  refine r_vv2 cd_Law_law_181 rfl ck_Law_law_M_slide (Nat.le_of_ble_eq_true rfl) hq rfl hM ?_
  refine r_icmp_eq cd_Law_law_184 ⟨by omega, by omega⟩ ⟨by omega, by omega⟩ (fun c_184 => ?_) (fun c_184 => ?_)
  · skip
    exact e9
  · skip
    exact absurd rfl c_184
theorem lw_hold {i : Int} (hx : ∀ z ∈ xs, inR z) (i0 : 0 ≤ i) (i1 : i ≤ (xs.length : Int) - 7) (hL : xs.length ≤ 448) (hI : Inv h) (e : ∀ h2 : MH, Inv h2 → LE xs 994 i h2) : LE xs 189 i h := by
  obtain ⟨f0, q0⟩ := inv_r0 hI
  have hb := at_in hx (j := i + 2) (by omega) (by omega)
  obtain ⟨b1, b2⟩ := hb
  by_cases z : at_ xs (i + 2) = 0
  · skip
    obtain ⟨r, h1, h2, hF, hM, h3, hr, fs, hq⟩ := sv_hold (xs := xs) hI (at_in hx (j := i + 1) (by omega) (by omega)) (Or.inl rfl)
    obtain ⟨h4, h5, e9⟩ := e h2 h3
    refine ⟨h4, h5, ?_⟩
    obtain ⟨r1, r2⟩ := id hr
    refine r_aload_n cd_Law_law_189 rfl ?_
    refine r_aloadS_n cd_Law_law_190 rfl ?_
    refine r_iload_n cd_Law_law_191 rfl ?_
    refine r_iconst cd_Law_law_192 ?_
    refine r_iadd cd_Law_law_193 ?_
    refine r_ialoadS (l := xs) cd_Law_law_194 rfl (by decide) rfl (by omega) (by omega) (by omega) ?_
    refine r_aloadS_n cd_Law_law_195 rfl ?_
    refine r_iload_n cd_Law_law_196 rfl ?_
    refine r_iconst cd_Law_law_197 ?_
    refine r_iadd cd_Law_law_198 ?_
    refine r_ialoadS (l := xs) cd_Law_law_199 rfl (by decide) rfl (by omega) (by omega) (by omega) ?_
    refine r_if_eq cd_Law_law_200 ⟨by omega, by omega⟩ (fun c_200 => ?_) (fun c_200 => ?_)
    · skip
      refine r_iconst cd_Law_law_207 ?_
      refine r_vv2 cd_Law_law_208 rfl ck_Law_law_F_hold (Nat.le_of_ble_eq_true rfl) q0 rfl hF ?_
      refine r_aload_n cd_Law_law_211 rfl ?_
      refine r_aloadS_n cd_Law_law_212 rfl ?_
      refine r_iload_n cd_Law_law_213 rfl ?_
      refine r_iconst cd_Law_law_214 ?_
      refine r_iadd cd_Law_law_215 ?_
      refine r_ialoadS (l := xs) cd_Law_law_216 rfl (by decide) rfl (by omega) (by omega) (by omega) ?_
      refine r_aloadS_n cd_Law_law_217 rfl ?_
      refine r_iload_n cd_Law_law_218 rfl ?_
      refine r_iconst cd_Law_law_219 ?_
      refine r_iadd cd_Law_law_220 ?_
      refine r_ialoadS (l := xs) cd_Law_law_221 rfl (by decide) rfl (by omega) (by omega) (by omega) ?_
      refine r_if_eq cd_Law_law_222 ⟨by omega, by omega⟩ (fun c_222 => ?_) (fun c_222 => ?_)
      · skip
        refine r_iconst cd_Law_law_229 ?_
        refine r_vv2 cd_Law_law_230 rfl ck_Law_law_M_hold (Nat.le_of_ble_eq_true rfl) hq rfl hM ?_
        refine r_icmp_eq cd_Law_law_233 ⟨by omega, by omega⟩ ⟨by omega, by omega⟩ (fun c_233 => ?_) (fun c_233 => ?_)
        · skip
          exact e9
        · skip
          exact absurd rfl c_233
      · skip
        exact absurd z c_222
    · skip
      exact absurd z c_200
  · skip
    obtain ⟨r, h1, h2, hF, hM, h3, hr, fs, hq⟩ := sv_hold (xs := xs) hI (at_in hx (j := i + 1) (by omega) (by omega)) (Or.inr rfl)
    obtain ⟨h4, h5, e9⟩ := e h2 h3
    refine ⟨h4, h5, ?_⟩
    obtain ⟨r1, r2⟩ := id hr
    refine r_aload_n cd_Law_law_189 rfl ?_
    refine r_aloadS_n cd_Law_law_190 rfl ?_
    refine r_iload_n cd_Law_law_191 rfl ?_
    refine r_iconst cd_Law_law_192 ?_
    refine r_iadd cd_Law_law_193 ?_
    refine r_ialoadS (l := xs) cd_Law_law_194 rfl (by decide) rfl (by omega) (by omega) (by omega) ?_
    refine r_aloadS_n cd_Law_law_195 rfl ?_
    refine r_iload_n cd_Law_law_196 rfl ?_
    refine r_iconst cd_Law_law_197 ?_
    refine r_iadd cd_Law_law_198 ?_
    refine r_ialoadS (l := xs) cd_Law_law_199 rfl (by decide) rfl (by omega) (by omega) (by omega) ?_
    refine r_if_eq cd_Law_law_200 ⟨by omega, by omega⟩ (fun c_200 => ?_) (fun c_200 => ?_)
    · skip
      exact absurd c_200 z
    · skip
      refine r_iconst cd_Law_law_203 ?_
      refine r_goto cd_Law_law_204 ?_
      refine r_vv2 cd_Law_law_208 rfl ck_Law_law_F_hold (Nat.le_of_ble_eq_true rfl) q0 rfl hF ?_
      refine r_aload_n cd_Law_law_211 rfl ?_
      refine r_aloadS_n cd_Law_law_212 rfl ?_
      refine r_iload_n cd_Law_law_213 rfl ?_
      refine r_iconst cd_Law_law_214 ?_
      refine r_iadd cd_Law_law_215 ?_
      refine r_ialoadS (l := xs) cd_Law_law_216 rfl (by decide) rfl (by omega) (by omega) (by omega) ?_
      refine r_aloadS_n cd_Law_law_217 rfl ?_
      refine r_iload_n cd_Law_law_218 rfl ?_
      refine r_iconst cd_Law_law_219 ?_
      refine r_iadd cd_Law_law_220 ?_
      refine r_ialoadS (l := xs) cd_Law_law_221 rfl (by decide) rfl (by omega) (by omega) (by omega) ?_
      refine r_if_eq cd_Law_law_222 ⟨by omega, by omega⟩ (fun c_222 => ?_) (fun c_222 => ?_)
      · skip
        exact absurd c_222 z
      · skip
        refine r_iconst cd_Law_law_225 ?_
        refine r_goto cd_Law_law_226 ?_
        refine r_vv2 cd_Law_law_230 rfl ck_Law_law_M_hold (Nat.le_of_ble_eq_true rfl) hq rfl hM ?_
        refine r_icmp_eq cd_Law_law_233 ⟨by omega, by omega⟩ ⟨by omega, by omega⟩ (fun c_233 => ?_) (fun c_233 => ?_)
        · skip
          exact e9
        · skip
          exact absurd rfl c_233
theorem lw_ball {i : Int} (hx : ∀ z ∈ xs, inR z) (i0 : 0 ≤ i) (i1 : i ≤ (xs.length : Int) - 7) (hL : xs.length ≤ 448) (hI : Inv h) (e : ∀ h2 : MH, Inv h2 → LE xs 994 i h2) : LE xs 238 i h := by
  obtain ⟨f0, q0⟩ := inv_r0 hI
  obtain ⟨r, h1, h2, hF, hM, h3, hr, fs, hq⟩ := sv_ball (xs := xs) hI (at_in hx (j := i + 1) (by omega) (by omega)) (at_in hx (j := i + 2) (by omega) (by omega))
  obtain ⟨h4, h5, e9⟩ := e h2 h3
  refine ⟨h4, h5, ?_⟩
  obtain ⟨r1, r2⟩ := id hr
  refine r_aload_n cd_Law_law_238 rfl ?_
  refine r_aloadS_n cd_Law_law_239 rfl ?_
  refine r_iload_n cd_Law_law_240 rfl ?_
  refine r_iconst cd_Law_law_241 ?_
  refine r_iadd cd_Law_law_242 ?_
  refine r_ialoadS (l := xs) cd_Law_law_243 rfl (by decide) rfl (by omega) (by omega) (by omega) ?_
  refine r_aloadS_n cd_Law_law_244 rfl ?_
  refine r_iload_n cd_Law_law_245 rfl ?_
  refine r_iconst cd_Law_law_246 ?_
  refine r_iadd cd_Law_law_247 ?_
  refine r_ialoadS (l := xs) cd_Law_law_248 rfl (by decide) rfl (by omega) (by omega) (by omega) ?_
  refine r_vv2 cd_Law_law_249 rfl ck_Law_law_F_ball (Nat.le_of_ble_eq_true rfl) q0 rfl hF ?_
  refine r_aload_n cd_Law_law_252 rfl ?_
  refine r_aloadS_n cd_Law_law_253 rfl ?_
  refine r_iload_n cd_Law_law_254 rfl ?_
  refine r_iconst cd_Law_law_255 ?_
  refine r_iadd cd_Law_law_256 ?_
  refine r_ialoadS (l := xs) cd_Law_law_257 rfl (by decide) rfl (by omega) (by omega) (by omega) ?_
  refine r_aloadS_n cd_Law_law_258 rfl ?_
  refine r_iload_n cd_Law_law_259 rfl ?_
  refine r_iconst cd_Law_law_260 ?_
  refine r_iadd cd_Law_law_261 ?_
  refine r_ialoadS (l := xs) cd_Law_law_262 rfl (by decide) rfl (by omega) (by omega) (by omega) ?_
  refine r_vv2 cd_Law_law_263 rfl ck_Law_law_M_ball (Nat.le_of_ble_eq_true rfl) hq rfl hM ?_
  refine r_icmp_eq cd_Law_law_266 ⟨by omega, by omega⟩ ⟨by omega, by omega⟩ (fun c_266 => ?_) (fun c_266 => ?_)
  · skip
    exact e9
  · skip
    exact absurd rfl c_266
theorem lw_goals {i : Int} (hx : ∀ z ∈ xs, inR z) (i0 : 0 ≤ i) (i1 : i ≤ (xs.length : Int) - 7) (hL : xs.length ≤ 448) (hI : Inv h) (e : ∀ h2 : MH, Inv h2 → LE xs 994 i h2) : LE xs 271 i h := by
  obtain ⟨f0, q0⟩ := inv_r0 hI
  obtain ⟨r, h1, h2, hF, hM, h3, hr, fs, hq⟩ := sv_goals (xs := xs) hI (at_in hx (j := i + 1) (by omega) (by omega)) (at_in hx (j := i + 2) (by omega) (by omega))
  obtain ⟨h4, h5, e9⟩ := e h2 h3
  refine ⟨h4, h5, ?_⟩
  obtain ⟨r1, r2⟩ := id hr
  refine r_aload_n cd_Law_law_271 rfl ?_
  refine r_aloadS_n cd_Law_law_272 rfl ?_
  refine r_iload_n cd_Law_law_273 rfl ?_
  refine r_iconst cd_Law_law_274 ?_
  refine r_iadd cd_Law_law_275 ?_
  refine r_ialoadS (l := xs) cd_Law_law_276 rfl (by decide) rfl (by omega) (by omega) (by omega) ?_
  refine r_aloadS_n cd_Law_law_277 rfl ?_
  refine r_iload_n cd_Law_law_278 rfl ?_
  refine r_iconst cd_Law_law_279 ?_
  refine r_iadd cd_Law_law_280 ?_
  refine r_ialoadS (l := xs) cd_Law_law_281 rfl (by decide) rfl (by omega) (by omega) (by omega) ?_
  refine r_vv2 cd_Law_law_282 rfl ck_Law_law_F_goals (Nat.le_of_ble_eq_true rfl) q0 rfl hF ?_
  refine r_aload_n cd_Law_law_285 rfl ?_
  refine r_aloadS_n cd_Law_law_286 rfl ?_
  refine r_iload_n cd_Law_law_287 rfl ?_
  refine r_iconst cd_Law_law_288 ?_
  refine r_iadd cd_Law_law_289 ?_
  refine r_ialoadS (l := xs) cd_Law_law_290 rfl (by decide) rfl (by omega) (by omega) (by omega) ?_
  refine r_aloadS_n cd_Law_law_291 rfl ?_
  refine r_iload_n cd_Law_law_292 rfl ?_
  refine r_iconst cd_Law_law_293 ?_
  refine r_iadd cd_Law_law_294 ?_
  refine r_ialoadS (l := xs) cd_Law_law_295 rfl (by decide) rfl (by omega) (by omega) (by omega) ?_
  refine r_vv2 cd_Law_law_296 rfl ck_Law_law_M_goals (Nat.le_of_ble_eq_true rfl) hq rfl hM ?_
  refine r_icmp_eq cd_Law_law_299 ⟨by omega, by omega⟩ ⟨by omega, by omega⟩ (fun c_299 => ?_) (fun c_299 => ?_)
  · skip
    exact e9
  · skip
    exact absurd rfl c_299
theorem lw_say {i : Int} (hx : ∀ z ∈ xs, inR z) (i0 : 0 ≤ i) (i1 : i ≤ (xs.length : Int) - 7) (hL : xs.length ≤ 448) (hI : Inv h) (e : ∀ h2 : MH, Inv h2 → LE xs 994 i h2) : LE xs 304 i h := by
  obtain ⟨f0, q0⟩ := inv_r0 hI
  obtain ⟨r, h1, h2, hF, hM, h3, hr, fs, hq⟩ := sv_say (xs := xs) hI (at_in hx (j := i + 1) (by omega) (by omega))
  obtain ⟨h4, h5, e9⟩ := e h2 h3
  refine ⟨h4, h5, ?_⟩
  obtain ⟨r1, r2⟩ := id hr
  refine r_aload_n cd_Law_law_304 rfl ?_
  refine r_aloadS_n cd_Law_law_305 rfl ?_
  refine r_iload_n cd_Law_law_306 rfl ?_
  refine r_iconst cd_Law_law_307 ?_
  refine r_iadd cd_Law_law_308 ?_
  refine r_ialoadS (l := xs) cd_Law_law_309 rfl (by decide) rfl (by omega) (by omega) (by omega) ?_
  refine r_vv1 cd_Law_law_310 rfl ck_Law_law_F_say (Nat.le_of_ble_eq_true rfl) q0 rfl hF ?_
  refine r_aload_n cd_Law_law_313 rfl ?_
  refine r_aloadS_n cd_Law_law_314 rfl ?_
  refine r_iload_n cd_Law_law_315 rfl ?_
  refine r_iconst cd_Law_law_316 ?_
  refine r_iadd cd_Law_law_317 ?_
  refine r_ialoadS (l := xs) cd_Law_law_318 rfl (by decide) rfl (by omega) (by omega) (by omega) ?_
  refine r_vv1 cd_Law_law_319 rfl ck_Law_law_M_say (Nat.le_of_ble_eq_true rfl) hq rfl hM ?_
  refine r_icmp_eq cd_Law_law_322 ⟨by omega, by omega⟩ ⟨by omega, by omega⟩ (fun c_322 => ?_) (fun c_322 => ?_)
  · skip
    exact e9
  · skip
    exact absurd rfl c_322
theorem lw_wipe {i : Int} (hx : ∀ z ∈ xs, inR z) (i0 : 0 ≤ i) (i1 : i ≤ (xs.length : Int) - 7) (hL : xs.length ≤ 448) (hI : Inv h) (e : ∀ h2 : MH, Inv h2 → LE xs 994 i h2) : LE xs 327 i h := by
  obtain ⟨f0, q0⟩ := inv_r0 hI
  obtain ⟨r, h1, h2, hF, hM, h3, hr, fs, hq⟩ := sv_wipe (xs := xs) hI
  obtain ⟨h4, h5, e9⟩ := e h2 h3
  refine ⟨h4, h5, ?_⟩
  obtain ⟨r1, r2⟩ := id hr
  refine r_aload_n cd_Law_law_327 rfl ?_
  refine r_vv0 cd_Law_law_328 rfl ck_Law_law_F_wipe (Nat.le_of_ble_eq_true rfl) q0 rfl hF ?_
  refine r_aload_n cd_Law_law_331 rfl ?_
  refine r_vv0 cd_Law_law_332 rfl ck_Law_law_M_wipe (Nat.le_of_ble_eq_true rfl) hq rfl hM ?_
  refine r_icmp_eq cd_Law_law_335 ⟨by omega, by omega⟩ ⟨by omega, by omega⟩ (fun c_335 => ?_) (fun c_335 => ?_)
  · skip
    exact e9
  · skip
    exact absurd rfl c_335
theorem lw_fault {i : Int} (hx : ∀ z ∈ xs, inR z) (i0 : 0 ≤ i) (i1 : i ≤ (xs.length : Int) - 7) (hL : xs.length ≤ 448) (hI : Inv h) (e : ∀ h2 : MH, Inv h2 → LE xs 994 i h2) : LE xs 340 i h := by
  obtain ⟨f0, q0⟩ := inv_r0 hI
  obtain ⟨r, h1, h2, hF, hM, h3, hr, fs, hq⟩ := sv_fault (xs := xs) hI
  obtain ⟨h4, h5, e9⟩ := e h2 h3
  refine ⟨h4, h5, ?_⟩
  obtain ⟨r1, r2⟩ := id hr
  refine r_aload_n cd_Law_law_340 rfl ?_
  refine r_vv0 cd_Law_law_341 rfl ck_Law_law_F_fault (Nat.le_of_ble_eq_true rfl) q0 rfl hF ?_
  refine r_aload_n cd_Law_law_344 rfl ?_
  refine r_vv0 cd_Law_law_345 rfl ck_Law_law_M_fault (Nat.le_of_ble_eq_true rfl) hq rfl hM ?_
  refine r_icmp_eq cd_Law_law_348 ⟨by omega, by omega⟩ ⟨by omega, by omega⟩ (fun c_348 => ?_) (fun c_348 => ?_)
  · skip
    exact e9
  · skip
    exact absurd rfl c_348
theorem lw_judge {i : Int} (hx : ∀ z ∈ xs, inR z) (i0 : 0 ≤ i) (i1 : i ≤ (xs.length : Int) - 7) (hL : xs.length ≤ 448) (hI : Inv h) (e : ∀ h2 : MH, Inv h2 → LE xs 994 i h2) : LE xs 353 i h := by
  obtain ⟨f0, q0⟩ := inv_r0 hI
  obtain ⟨r, h1, h2, hF, hM, h3, hr, fs, hq⟩ := sv_judge (xs := xs) hI (at_in hx (j := i + 1) (by omega) (by omega))
  obtain ⟨h4, h5, e9⟩ := e h2 h3
  refine ⟨h4, h5, ?_⟩
  obtain ⟨r1, r2⟩ := id hr
  refine r_aload_n cd_Law_law_353 rfl ?_
  refine r_aloadS_n cd_Law_law_354 rfl ?_
  refine r_iload_n cd_Law_law_355 rfl ?_
  refine r_iconst cd_Law_law_356 ?_
  refine r_iadd cd_Law_law_357 ?_
  refine r_ialoadS (l := xs) cd_Law_law_358 rfl (by decide) rfl (by omega) (by omega) (by omega) ?_
  refine r_vv1 cd_Law_law_359 rfl ck_Law_law_F_judge (Nat.le_of_ble_eq_true rfl) q0 rfl hF ?_
  refine r_aload_n cd_Law_law_362 rfl ?_
  refine r_aloadS_n cd_Law_law_363 rfl ?_
  refine r_iload_n cd_Law_law_364 rfl ?_
  refine r_iconst cd_Law_law_365 ?_
  refine r_iadd cd_Law_law_366 ?_
  refine r_ialoadS (l := xs) cd_Law_law_367 rfl (by decide) rfl (by omega) (by omega) (by omega) ?_
  refine r_vv1 cd_Law_law_368 rfl ck_Law_law_M_judge (Nat.le_of_ble_eq_true rfl) hq rfl hM ?_
  refine r_icmp_eq cd_Law_law_371 ⟨by omega, by omega⟩ ⟨by omega, by omega⟩ (fun c_371 => ?_) (fun c_371 => ?_)
  · skip
    exact e9
  · skip
    exact absurd rfl c_371
theorem lw_done {i : Int} (hx : ∀ z ∈ xs, inR z) (i0 : 0 ≤ i) (i1 : i ≤ (xs.length : Int) - 7) (hL : xs.length ≤ 448) (hI : Inv h) (e : ∀ h2 : MH, Inv h2 → LE xs 994 i h2) : LE xs 376 i h := by
  obtain ⟨f0, q0⟩ := inv_r0 hI
  obtain ⟨r, h1, h2, hF, hM, h3, hr, fs, hq⟩ := sv_done (xs := xs) hI
  obtain ⟨h4, h5, e9⟩ := e h2 h3
  refine ⟨h4, h5, ?_⟩
  obtain ⟨r1, r2⟩ := id hr
  refine r_aload_n cd_Law_law_376 rfl ?_
  refine r_vv0 cd_Law_law_377 rfl ck_Law_law_F_done (Nat.le_of_ble_eq_true rfl) q0 rfl hF ?_
  refine r_aload_n cd_Law_law_380 rfl ?_
  refine r_vv0 cd_Law_law_381 rfl ck_Law_law_M_done (Nat.le_of_ble_eq_true rfl) hq rfl hM ?_
  refine r_icmp_eq cd_Law_law_384 ⟨by omega, by omega⟩ ⟨by omega, by omega⟩ (fun c_384 => ?_) (fun c_384 => ?_)
  · skip
    exact e9
  · skip
    exact absurd rfl c_384
theorem lw_behind {i : Int} (hx : ∀ z ∈ xs, inR z) (i0 : 0 ≤ i) (i1 : i ≤ (xs.length : Int) - 7) (hL : xs.length ≤ 448) (hI : Inv h) (e : ∀ h2 : MH, Inv h2 → LE xs 994 i h2) : LE xs 389 i h := by
  obtain ⟨f0, q0⟩ := inv_r0 hI
  obtain ⟨r, h1, h2, hF, hM, h3, hr, fs, hq⟩ := sv_behind (xs := xs) hI (at_in hx (j := i + 1) (by omega) (by omega)) (at_in hx (j := i + 2) (by omega) (by omega))
  obtain ⟨h4, h5, e9⟩ := e h2 h3
  refine ⟨h4, h5, ?_⟩
  obtain ⟨r1, r2⟩ := id hr
  refine r_aload_n cd_Law_law_389 rfl ?_
  refine r_aloadS_n cd_Law_law_390 rfl ?_
  refine r_iload_n cd_Law_law_391 rfl ?_
  refine r_iconst cd_Law_law_392 ?_
  refine r_iadd cd_Law_law_393 ?_
  refine r_ialoadS (l := xs) cd_Law_law_394 rfl (by decide) rfl (by omega) (by omega) (by omega) ?_
  refine r_aloadS_n cd_Law_law_395 rfl ?_
  refine r_iload_n cd_Law_law_396 rfl ?_
  refine r_iconst cd_Law_law_397 ?_
  refine r_iadd cd_Law_law_398 ?_
  refine r_ialoadS (l := xs) cd_Law_law_399 rfl (by decide) rfl (by omega) (by omega) (by omega) ?_
  refine r_vv2 cd_Law_law_400 rfl ck_Law_law_F_behind (Nat.le_of_ble_eq_true rfl) q0 rfl hF ?_
  refine r_aload_n cd_Law_law_403 rfl ?_
  refine r_aloadS_n cd_Law_law_404 rfl ?_
  refine r_iload_n cd_Law_law_405 rfl ?_
  refine r_iconst cd_Law_law_406 ?_
  refine r_iadd cd_Law_law_407 ?_
  refine r_ialoadS (l := xs) cd_Law_law_408 rfl (by decide) rfl (by omega) (by omega) (by omega) ?_
  refine r_aloadS_n cd_Law_law_409 rfl ?_
  refine r_iload_n cd_Law_law_410 rfl ?_
  refine r_iconst cd_Law_law_411 ?_
  refine r_iadd cd_Law_law_412 ?_
  refine r_ialoadS (l := xs) cd_Law_law_413 rfl (by decide) rfl (by omega) (by omega) (by omega) ?_
  refine r_vv2 cd_Law_law_414 rfl ck_Law_law_M_behind (Nat.le_of_ble_eq_true rfl) hq rfl hM ?_
  refine r_icmp_eq cd_Law_law_417 ⟨by omega, by omega⟩ ⟨by omega, by omega⟩ (fun c_417 => ?_) (fun c_417 => ?_)
  · skip
    exact e9
  · skip
    exact absurd rfl c_417
theorem lw_then {i : Int} (hx : ∀ z ∈ xs, inR z) (i0 : 0 ≤ i) (i1 : i ≤ (xs.length : Int) - 7) (hL : xs.length ≤ 448) (hI : Inv h) (e : ∀ h2 : MH, Inv h2 → LE xs 994 i h2) : LE xs 422 i h := by
  obtain ⟨f0, q0⟩ := inv_r0 hI
  obtain ⟨r, h1, h2, hF, hM, h3, hr, fs, hq⟩ := sv_then (xs := xs) hI (at_in hx (j := i + 1) (by omega) (by omega))
  obtain ⟨h4, h5, e9⟩ := e h2 h3
  refine ⟨h4, h5, ?_⟩
  obtain ⟨r1, r2⟩ := id hr
  refine r_aload_n cd_Law_law_422 rfl ?_
  refine r_aloadS_n cd_Law_law_423 rfl ?_
  refine r_iload_n cd_Law_law_424 rfl ?_
  refine r_iconst cd_Law_law_425 ?_
  refine r_iadd cd_Law_law_426 ?_
  refine r_ialoadS (l := xs) cd_Law_law_427 rfl (by decide) rfl (by omega) (by omega) (by omega) ?_
  refine r_vv1 cd_Law_law_428 rfl ck_Law_law_F_then (Nat.le_of_ble_eq_true rfl) q0 rfl hF ?_
  refine r_aload_n cd_Law_law_431 rfl ?_
  refine r_aloadS_n cd_Law_law_432 rfl ?_
  refine r_iload_n cd_Law_law_433 rfl ?_
  refine r_iconst cd_Law_law_434 ?_
  refine r_iadd cd_Law_law_435 ?_
  refine r_ialoadS (l := xs) cd_Law_law_436 rfl (by decide) rfl (by omega) (by omega) (by omega) ?_
  refine r_vv1 cd_Law_law_437 rfl ck_Law_law_M_then (Nat.le_of_ble_eq_true rfl) hq rfl hM ?_
  refine r_icmp_eq cd_Law_law_440 ⟨by omega, by omega⟩ ⟨by omega, by omega⟩ (fun c_440 => ?_) (fun c_440 => ?_)
  · skip
    exact e9
  · skip
    exact absurd rfl c_440
theorem lw_ends {i : Int} (hx : ∀ z ∈ xs, inR z) (i0 : 0 ≤ i) (i1 : i ≤ (xs.length : Int) - 7) (hL : xs.length ≤ 448) (hI : Inv h) (e : ∀ h2 : MH, Inv h2 → LE xs 994 i h2) : LE xs 445 i h := by
  obtain ⟨f0, q0⟩ := inv_r0 hI
  obtain ⟨r, h1, h2, hF, hM, h3, hr, fs, hq⟩ := sv_ends (xs := xs) hI (at_in hx (j := i + 1) (by omega) (by omega))
  obtain ⟨h4, h5, e9⟩ := e h2 h3
  refine ⟨h4, h5, ?_⟩
  obtain ⟨r1, r2⟩ := id hr
  refine r_aload_n cd_Law_law_445 rfl ?_
  refine r_aloadS_n cd_Law_law_446 rfl ?_
  refine r_iload_n cd_Law_law_447 rfl ?_
  refine r_iconst cd_Law_law_448 ?_
  refine r_iadd cd_Law_law_449 ?_
  refine r_ialoadS (l := xs) cd_Law_law_450 rfl (by decide) rfl (by omega) (by omega) (by omega) ?_
  refine r_vv1 cd_Law_law_451 rfl ck_Law_law_F_ends (Nat.le_of_ble_eq_true rfl) q0 rfl hF ?_
  refine r_aload_n cd_Law_law_454 rfl ?_
  refine r_aloadS_n cd_Law_law_455 rfl ?_
  refine r_iload_n cd_Law_law_456 rfl ?_
  refine r_iconst cd_Law_law_457 ?_
  refine r_iadd cd_Law_law_458 ?_
  refine r_ialoadS (l := xs) cd_Law_law_459 rfl (by decide) rfl (by omega) (by omega) (by omega) ?_
  refine r_vv1 cd_Law_law_460 rfl ck_Law_law_M_ends (Nat.le_of_ble_eq_true rfl) hq rfl hM ?_
  refine r_icmp_eq cd_Law_law_463 ⟨by omega, by omega⟩ ⟨by omega, by omega⟩ (fun c_463 => ?_) (fun c_463 => ?_)
  · skip
    exact e9
  · skip
    exact absurd rfl c_463
theorem lw_goesIn {i : Int} (hx : ∀ z ∈ xs, inR z) (i0 : 0 ≤ i) (i1 : i ≤ (xs.length : Int) - 7) (hL : xs.length ≤ 448) (hI : Inv h) (e : ∀ h2 : MH, Inv h2 → LE xs 994 i h2) : LE xs 468 i h := by
  obtain ⟨f0, q0⟩ := inv_r0 hI
  obtain ⟨r, h1, h2, hF, hM, h3, hr, fs, hq⟩ := sv_goesIn (xs := xs) hI
  obtain ⟨h4, h5, e9⟩ := e h2 h3
  refine ⟨h4, h5, ?_⟩
  obtain ⟨r1, r2⟩ := id hr
  refine r_aload_n cd_Law_law_468 rfl ?_
  refine r_vv0 cd_Law_law_469 rfl ck_Law_law_F_goesIn (Nat.le_of_ble_eq_true rfl) q0 rfl hF ?_
  refine r_aload_n cd_Law_law_472 rfl ?_
  refine r_vv0 cd_Law_law_473 rfl ck_Law_law_M_goesIn (Nat.le_of_ble_eq_true rfl) hq rfl hM ?_
  refine r_icmp_eq cd_Law_law_476 ⟨by omega, by omega⟩ ⟨by omega, by omega⟩ (fun c_476 => ?_) (fun c_476 => ?_)
  · skip
    exact e9
  · skip
    exact absurd rfl c_476
theorem lw_path {i : Int} (hx : ∀ z ∈ xs, inR z) (i0 : 0 ≤ i) (i1 : i ≤ (xs.length : Int) - 7) (hL : xs.length ≤ 448) (hI : Inv h) (e : ∀ h2 : MH, Inv h2 → LE xs 994 i h2) : LE xs 481 i h := by
  obtain ⟨f0, q0⟩ := inv_r0 hI
  obtain ⟨r, h1, h2, hF, hM, h3, hr, fs, hq⟩ := sv_path (xs := xs) hI (at_in hx (j := i + 1) (by omega) (by omega)) (at_in hx (j := i + 2) (by omega) (by omega)) (at_in hx (j := i + 3) (by omega) (by omega))
  obtain ⟨h4, h5, e9⟩ := e h2 h3
  refine ⟨h4, h5, ?_⟩
  obtain ⟨r1, r2⟩ := id hr
  refine r_aload_n cd_Law_law_481 rfl ?_
  refine r_aloadS_n cd_Law_law_482 rfl ?_
  refine r_iload_n cd_Law_law_483 rfl ?_
  refine r_iconst cd_Law_law_484 ?_
  refine r_iadd cd_Law_law_485 ?_
  refine r_ialoadS (l := xs) cd_Law_law_486 rfl (by decide) rfl (by omega) (by omega) (by omega) ?_
  refine r_aloadS_n cd_Law_law_487 rfl ?_
  refine r_iload_n cd_Law_law_488 rfl ?_
  refine r_iconst cd_Law_law_489 ?_
  refine r_iadd cd_Law_law_490 ?_
  refine r_ialoadS (l := xs) cd_Law_law_491 rfl (by decide) rfl (by omega) (by omega) (by omega) ?_
  refine r_aloadS_n cd_Law_law_492 rfl ?_
  refine r_iload_n cd_Law_law_493 rfl ?_
  refine r_iconst cd_Law_law_494 ?_
  refine r_iadd cd_Law_law_495 ?_
  refine r_ialoadS (l := xs) cd_Law_law_496 rfl (by decide) rfl (by omega) (by omega) (by omega) ?_
  refine r_vv3 cd_Law_law_497 rfl ck_Law_law_F_path (Nat.le_of_ble_eq_true rfl) q0 rfl hF ?_
  refine r_aload_n cd_Law_law_500 rfl ?_
  refine r_aloadS_n cd_Law_law_501 rfl ?_
  refine r_iload_n cd_Law_law_502 rfl ?_
  refine r_iconst cd_Law_law_503 ?_
  refine r_iadd cd_Law_law_504 ?_
  refine r_ialoadS (l := xs) cd_Law_law_505 rfl (by decide) rfl (by omega) (by omega) (by omega) ?_
  refine r_aloadS_n cd_Law_law_506 rfl ?_
  refine r_iload_n cd_Law_law_507 rfl ?_
  refine r_iconst cd_Law_law_508 ?_
  refine r_iadd cd_Law_law_509 ?_
  refine r_ialoadS (l := xs) cd_Law_law_510 rfl (by decide) rfl (by omega) (by omega) (by omega) ?_
  refine r_aloadS_n cd_Law_law_511 rfl ?_
  refine r_iload_n cd_Law_law_512 rfl ?_
  refine r_iconst cd_Law_law_513 ?_
  refine r_iadd cd_Law_law_514 ?_
  refine r_ialoadS (l := xs) cd_Law_law_515 rfl (by decide) rfl (by omega) (by omega) (by omega) ?_
  refine r_vv3 cd_Law_law_516 rfl ck_Law_law_M_path (Nat.le_of_ble_eq_true rfl) hq rfl hM ?_
  refine r_icmp_eq cd_Law_law_519 ⟨by omega, by omega⟩ ⟨by omega, by omega⟩ (fun c_519 => ?_) (fun c_519 => ?_)
  · skip
    exact e9
  · skip
    exact absurd rfl c_519
theorem lw_stand {i : Int} (hx : ∀ z ∈ xs, inR z) (i0 : 0 ≤ i) (i1 : i ≤ (xs.length : Int) - 7) (hL : xs.length ≤ 448) (hI : Inv h) (e : ∀ h2 : MH, Inv h2 → LE xs 994 i h2) : LE xs 524 i h := by
  obtain ⟨f0, q0⟩ := inv_r0 hI
  obtain ⟨r, h1, h2, hF, hM, h3, hr, fs, hq⟩ := sv_stand (xs := xs) hI (at_in hx (j := i + 1) (by omega) (by omega))
  obtain ⟨h4, h5, e9⟩ := e h2 h3
  refine ⟨h4, h5, ?_⟩
  obtain ⟨r1, r2⟩ := id hr
  refine r_aload_n cd_Law_law_524 rfl ?_
  refine r_aloadS_n cd_Law_law_525 rfl ?_
  refine r_iload_n cd_Law_law_526 rfl ?_
  refine r_iconst cd_Law_law_527 ?_
  refine r_iadd cd_Law_law_528 ?_
  refine r_ialoadS (l := xs) cd_Law_law_529 rfl (by decide) rfl (by omega) (by omega) (by omega) ?_
  refine r_vv1 cd_Law_law_530 rfl ck_Law_law_F_stand (Nat.le_of_ble_eq_true rfl) q0 rfl hF ?_
  refine r_aload_n cd_Law_law_533 rfl ?_
  refine r_aloadS_n cd_Law_law_534 rfl ?_
  refine r_iload_n cd_Law_law_535 rfl ?_
  refine r_iconst cd_Law_law_536 ?_
  refine r_iadd cd_Law_law_537 ?_
  refine r_ialoadS (l := xs) cd_Law_law_538 rfl (by decide) rfl (by omega) (by omega) (by omega) ?_
  refine r_vv1 cd_Law_law_539 rfl ck_Law_law_M_stand (Nat.le_of_ble_eq_true rfl) hq rfl hM ?_
  refine r_icmp_eq cd_Law_law_542 ⟨by omega, by omega⟩ ⟨by omega, by omega⟩ (fun c_542 => ?_) (fun c_542 => ?_)
  · skip
    exact e9
  · skip
    exact absurd rfl c_542
theorem lw_mix {i : Int} (hx : ∀ z ∈ xs, inR z) (i0 : 0 ≤ i) (i1 : i ≤ (xs.length : Int) - 7) (hL : xs.length ≤ 448) (hI : Inv h) (e : ∀ h2 : MH, Inv h2 → LE xs 994 i h2) : LE xs 547 i h := by
  obtain ⟨f0, q0⟩ := inv_r0 hI
  obtain ⟨r, h1, h2, hF, hM, h3, hr, fs, hq⟩ := sv_mix (xs := xs) hI (at_in hx (j := i + 1) (by omega) (by omega)) (at_in hx (j := i + 2) (by omega) (by omega)) (at_in hx (j := i + 3) (by omega) (by omega)) (at_in hx (j := i + 4) (by omega) (by omega)) (at_in hx (j := i + 5) (by omega) (by omega)) (at_in hx (j := i + 6) (by omega) (by omega))
  obtain ⟨h4, h5, e9⟩ := e h2 h3
  refine ⟨h4, h5, ?_⟩
  obtain ⟨r1, r2⟩ := id hr
  have hl := lcm_r r
  refine r_aload_n cd_Law_law_547 rfl ?_
  refine r_aloadS_n cd_Law_law_548 rfl ?_
  refine r_iload_n cd_Law_law_549 rfl ?_
  refine r_iconst cd_Law_law_550 ?_
  refine r_iadd cd_Law_law_551 ?_
  refine r_ialoadS (l := xs) cd_Law_law_552 rfl (by decide) rfl (by omega) (by omega) (by omega) ?_
  refine r_aloadS_n cd_Law_law_553 rfl ?_
  refine r_iload_n cd_Law_law_554 rfl ?_
  refine r_iconst cd_Law_law_555 ?_
  refine r_iadd cd_Law_law_556 ?_
  refine r_ialoadS (l := xs) cd_Law_law_557 rfl (by decide) rfl (by omega) (by omega) (by omega) ?_
  refine r_aloadS_n cd_Law_law_558 rfl ?_
  refine r_iload_n cd_Law_law_559 rfl ?_
  refine r_iconst cd_Law_law_560 ?_
  refine r_iadd cd_Law_law_561 ?_
  refine r_ialoadS (l := xs) cd_Law_law_562 rfl (by decide) rfl (by omega) (by omega) (by omega) ?_
  refine r_aloadS_n cd_Law_law_563 rfl ?_
  refine r_iload_n cd_Law_law_564 rfl ?_
  refine r_iconst cd_Law_law_565 ?_
  refine r_iadd cd_Law_law_566 ?_
  refine r_ialoadS (l := xs) cd_Law_law_567 rfl (by decide) rfl (by omega) (by omega) (by omega) ?_
  refine r_aloadS_n cd_Law_law_568 rfl ?_
  refine r_iload_n cd_Law_law_569 rfl ?_
  refine r_iconst cd_Law_law_570 ?_
  refine r_iadd cd_Law_law_571 ?_
  refine r_ialoadS (l := xs) cd_Law_law_572 rfl (by decide) rfl (by omega) (by omega) (by omega) ?_
  refine r_aloadS_n cd_Law_law_573 rfl ?_
  refine r_iload_n cd_Law_law_574 rfl ?_
  refine r_bipush cd_Law_law_575 ?_
  refine r_iadd cd_Law_law_577 ?_
  refine r_ialoadS (l := xs) cd_Law_law_578 rfl (by decide) rfl (by omega) (by omega) (by omega) ?_
  refine r_vv6 cd_Law_law_579 rfl ck_Law_law_F_mix (Nat.le_of_ble_eq_true rfl) q0 rfl hF ?_
  refine r_aload_n cd_Law_law_582 rfl ?_
  refine r_aloadS_n cd_Law_law_583 rfl ?_
  refine r_iload_n cd_Law_law_584 rfl ?_
  refine r_iconst cd_Law_law_585 ?_
  refine r_iadd cd_Law_law_586 ?_
  refine r_ialoadS (l := xs) cd_Law_law_587 rfl (by decide) rfl (by omega) (by omega) (by omega) ?_
  refine r_aloadS_n cd_Law_law_588 rfl ?_
  refine r_iload_n cd_Law_law_589 rfl ?_
  refine r_iconst cd_Law_law_590 ?_
  refine r_iadd cd_Law_law_591 ?_
  refine r_ialoadS (l := xs) cd_Law_law_592 rfl (by decide) rfl (by omega) (by omega) (by omega) ?_
  refine r_aloadS_n cd_Law_law_593 rfl ?_
  refine r_iload_n cd_Law_law_594 rfl ?_
  refine r_iconst cd_Law_law_595 ?_
  refine r_iadd cd_Law_law_596 ?_
  refine r_ialoadS (l := xs) cd_Law_law_597 rfl (by decide) rfl (by omega) (by omega) (by omega) ?_
  refine r_aloadS_n cd_Law_law_598 rfl ?_
  refine r_iload_n cd_Law_law_599 rfl ?_
  refine r_iconst cd_Law_law_600 ?_
  refine r_iadd cd_Law_law_601 ?_
  refine r_ialoadS (l := xs) cd_Law_law_602 rfl (by decide) rfl (by omega) (by omega) (by omega) ?_
  refine r_aloadS_n cd_Law_law_603 rfl ?_
  refine r_iload_n cd_Law_law_604 rfl ?_
  refine r_iconst cd_Law_law_605 ?_
  refine r_iadd cd_Law_law_606 ?_
  refine r_ialoadS (l := xs) cd_Law_law_607 rfl (by decide) rfl (by omega) (by omega) (by omega) ?_
  refine r_aloadS_n cd_Law_law_608 rfl ?_
  refine r_iload_n cd_Law_law_609 rfl ?_
  refine r_bipush cd_Law_law_610 ?_
  refine r_iadd cd_Law_law_612 ?_
  refine r_ialoadS (l := xs) cd_Law_law_613 rfl (by decide) rfl (by omega) (by omega) (by omega) ?_
  refine r_vv6 cd_Law_law_614 rfl ck_Law_law_M_mix (Nat.le_of_ble_eq_true rfl) hq rfl hM ?_
  refine r_lcmp cd_Law_law_617 ⟨by omega, by omega⟩ ⟨by omega, by omega⟩ ?_
  refine r_if_eq cd_Law_law_618 ⟨by omega, by omega⟩ (fun c_618 => ?_) (fun c_618 => ?_)
  · skip
    exact e9
  · skip
    exact absurd hl c_618
theorem lw_hands {i : Int} (hx : ∀ z ∈ xs, inR z) (i0 : 0 ≤ i) (i1 : i ≤ (xs.length : Int) - 7) (hL : xs.length ≤ 448) (hI : Inv h) (e : ∀ h2 : MH, Inv h2 → LE xs 994 i h2) : LE xs 623 i h := by
  obtain ⟨f0, q0⟩ := inv_r0 hI
  obtain ⟨r, h1, h2, hF, hM, h3, hr, fs, hq⟩ := sv_hands (xs := xs) hI (at_in hx (j := i + 1) (by omega) (by omega)) (at_in hx (j := i + 2) (by omega) (by omega))
  obtain ⟨h4, h5, e9⟩ := e h2 h3
  refine ⟨h4, h5, ?_⟩
  obtain ⟨r1, r2⟩ := id hr
  refine r_aload_n cd_Law_law_623 rfl ?_
  refine r_aloadS_n cd_Law_law_624 rfl ?_
  refine r_iload_n cd_Law_law_625 rfl ?_
  refine r_iconst cd_Law_law_626 ?_
  refine r_iadd cd_Law_law_627 ?_
  refine r_ialoadS (l := xs) cd_Law_law_628 rfl (by decide) rfl (by omega) (by omega) (by omega) ?_
  refine r_aloadS_n cd_Law_law_629 rfl ?_
  refine r_iload_n cd_Law_law_630 rfl ?_
  refine r_iconst cd_Law_law_631 ?_
  refine r_iadd cd_Law_law_632 ?_
  refine r_ialoadS (l := xs) cd_Law_law_633 rfl (by decide) rfl (by omega) (by omega) (by omega) ?_
  refine r_vv2 cd_Law_law_634 rfl ck_Law_law_F_hands (Nat.le_of_ble_eq_true rfl) q0 rfl hF ?_
  refine r_aload_n cd_Law_law_637 rfl ?_
  refine r_aloadS_n cd_Law_law_638 rfl ?_
  refine r_iload_n cd_Law_law_639 rfl ?_
  refine r_iconst cd_Law_law_640 ?_
  refine r_iadd cd_Law_law_641 ?_
  refine r_ialoadS (l := xs) cd_Law_law_642 rfl (by decide) rfl (by omega) (by omega) (by omega) ?_
  refine r_aloadS_n cd_Law_law_643 rfl ?_
  refine r_iload_n cd_Law_law_644 rfl ?_
  refine r_iconst cd_Law_law_645 ?_
  refine r_iadd cd_Law_law_646 ?_
  refine r_ialoadS (l := xs) cd_Law_law_647 rfl (by decide) rfl (by omega) (by omega) (by omega) ?_
  refine r_vv2 cd_Law_law_648 rfl ck_Law_law_M_hands (Nat.le_of_ble_eq_true rfl) hq rfl hM ?_
  refine r_icmp_eq cd_Law_law_651 ⟨by omega, by omega⟩ ⟨by omega, by omega⟩ (fun c_651 => ?_) (fun c_651 => ?_)
  · skip
    exact e9
  · skip
    exact absurd rfl c_651
theorem lw_truly {i : Int} (hx : ∀ z ∈ xs, inR z) (i0 : 0 ≤ i) (i1 : i ≤ (xs.length : Int) - 7) (hL : xs.length ≤ 448) (hI : Inv h) (e : ∀ h2 : MH, Inv h2 → LE xs 994 i h2) : LE xs 656 i h := by
  obtain ⟨f0, q0⟩ := inv_r0 hI
  obtain ⟨r, h1, h2, hF, hM, h3, hr, fs, hq⟩ := sv_truly (xs := xs) hI (at_in hx (j := i + 1) (by omega) (by omega)) (at_in hx (j := i + 2) (by omega) (by omega)) (at_in hx (j := i + 3) (by omega) (by omega)) (at_in hx (j := i + 4) (by omega) (by omega)) (at_in hx (j := i + 5) (by omega) (by omega))
  obtain ⟨h4, h5, e9⟩ := e h2 h3
  refine ⟨h4, h5, ?_⟩
  obtain ⟨r1, r2⟩ := id hr
  have hl := lcm_r r
  refine r_aload_n cd_Law_law_656 rfl ?_
  refine r_aloadS_n cd_Law_law_657 rfl ?_
  refine r_iload_n cd_Law_law_658 rfl ?_
  refine r_iconst cd_Law_law_659 ?_
  refine r_iadd cd_Law_law_660 ?_
  refine r_ialoadS (l := xs) cd_Law_law_661 rfl (by decide) rfl (by omega) (by omega) (by omega) ?_
  refine r_aloadS_n cd_Law_law_662 rfl ?_
  refine r_iload_n cd_Law_law_663 rfl ?_
  refine r_iconst cd_Law_law_664 ?_
  refine r_iadd cd_Law_law_665 ?_
  refine r_ialoadS (l := xs) cd_Law_law_666 rfl (by decide) rfl (by omega) (by omega) (by omega) ?_
  refine r_aloadS_n cd_Law_law_667 rfl ?_
  refine r_iload_n cd_Law_law_668 rfl ?_
  refine r_iconst cd_Law_law_669 ?_
  refine r_iadd cd_Law_law_670 ?_
  refine r_ialoadS (l := xs) cd_Law_law_671 rfl (by decide) rfl (by omega) (by omega) (by omega) ?_
  refine r_aloadS_n cd_Law_law_672 rfl ?_
  refine r_iload_n cd_Law_law_673 rfl ?_
  refine r_iconst cd_Law_law_674 ?_
  refine r_iadd cd_Law_law_675 ?_
  refine r_ialoadS (l := xs) cd_Law_law_676 rfl (by decide) rfl (by omega) (by omega) (by omega) ?_
  refine r_aloadS_n cd_Law_law_677 rfl ?_
  refine r_iload_n cd_Law_law_678 rfl ?_
  refine r_iconst cd_Law_law_679 ?_
  refine r_iadd cd_Law_law_680 ?_
  refine r_ialoadS (l := xs) cd_Law_law_681 rfl (by decide) rfl (by omega) (by omega) (by omega) ?_
  refine r_vv5 cd_Law_law_682 rfl ck_Law_law_F_truly (Nat.le_of_ble_eq_true rfl) q0 rfl hF ?_
  refine r_aload_n cd_Law_law_685 rfl ?_
  refine r_aloadS_n cd_Law_law_686 rfl ?_
  refine r_iload_n cd_Law_law_687 rfl ?_
  refine r_iconst cd_Law_law_688 ?_
  refine r_iadd cd_Law_law_689 ?_
  refine r_ialoadS (l := xs) cd_Law_law_690 rfl (by decide) rfl (by omega) (by omega) (by omega) ?_
  refine r_aloadS_n cd_Law_law_691 rfl ?_
  refine r_iload_n cd_Law_law_692 rfl ?_
  refine r_iconst cd_Law_law_693 ?_
  refine r_iadd cd_Law_law_694 ?_
  refine r_ialoadS (l := xs) cd_Law_law_695 rfl (by decide) rfl (by omega) (by omega) (by omega) ?_
  refine r_aloadS_n cd_Law_law_696 rfl ?_
  refine r_iload_n cd_Law_law_697 rfl ?_
  refine r_iconst cd_Law_law_698 ?_
  refine r_iadd cd_Law_law_699 ?_
  refine r_ialoadS (l := xs) cd_Law_law_700 rfl (by decide) rfl (by omega) (by omega) (by omega) ?_
  refine r_aloadS_n cd_Law_law_701 rfl ?_
  refine r_iload_n cd_Law_law_702 rfl ?_
  refine r_iconst cd_Law_law_703 ?_
  refine r_iadd cd_Law_law_704 ?_
  refine r_ialoadS (l := xs) cd_Law_law_705 rfl (by decide) rfl (by omega) (by omega) (by omega) ?_
  refine r_aloadS_n cd_Law_law_706 rfl ?_
  refine r_iload_n cd_Law_law_707 rfl ?_
  refine r_iconst cd_Law_law_708 ?_
  refine r_iadd cd_Law_law_709 ?_
  refine r_ialoadS (l := xs) cd_Law_law_710 rfl (by decide) rfl (by omega) (by omega) (by omega) ?_
  refine r_vv5 cd_Law_law_711 rfl ck_Law_law_M_truly (Nat.le_of_ble_eq_true rfl) hq rfl hM ?_
  refine r_lcmp cd_Law_law_714 ⟨by omega, by omega⟩ ⟨by omega, by omega⟩ ?_
  refine r_if_eq cd_Law_law_715 ⟨by omega, by omega⟩ (fun c_715 => ?_) (fun c_715 => ?_)
  · skip
    exact e9
  · skip
    exact absurd hl c_715
theorem lw_race {i : Int} (hx : ∀ z ∈ xs, inR z) (i0 : 0 ≤ i) (i1 : i ≤ (xs.length : Int) - 7) (hL : xs.length ≤ 448) (hI : Inv h) (e : ∀ h2 : MH, Inv h2 → LE xs 994 i h2) : LE xs 720 i h := by
  obtain ⟨f0, q0⟩ := inv_r0 hI
  obtain ⟨r, h1, h2, hF, hM, h3, hr, fs, hq⟩ := sv_race (xs := xs) hI (at_in hx (j := i + 1) (by omega) (by omega)) (at_in hx (j := i + 2) (by omega) (by omega)) (at_in hx (j := i + 3) (by omega) (by omega)) (at_in hx (j := i + 4) (by omega) (by omega))
  obtain ⟨h4, h5, e9⟩ := e h2 h3
  refine ⟨h4, h5, ?_⟩
  obtain ⟨r1, r2⟩ := id hr
  have hl := lcm_r r
  refine r_aload_n cd_Law_law_720 rfl ?_
  refine r_aloadS_n cd_Law_law_721 rfl ?_
  refine r_iload_n cd_Law_law_722 rfl ?_
  refine r_iconst cd_Law_law_723 ?_
  refine r_iadd cd_Law_law_724 ?_
  refine r_ialoadS (l := xs) cd_Law_law_725 rfl (by decide) rfl (by omega) (by omega) (by omega) ?_
  refine r_aloadS_n cd_Law_law_726 rfl ?_
  refine r_iload_n cd_Law_law_727 rfl ?_
  refine r_iconst cd_Law_law_728 ?_
  refine r_iadd cd_Law_law_729 ?_
  refine r_ialoadS (l := xs) cd_Law_law_730 rfl (by decide) rfl (by omega) (by omega) (by omega) ?_
  refine r_aloadS_n cd_Law_law_731 rfl ?_
  refine r_iload_n cd_Law_law_732 rfl ?_
  refine r_iconst cd_Law_law_733 ?_
  refine r_iadd cd_Law_law_734 ?_
  refine r_ialoadS (l := xs) cd_Law_law_735 rfl (by decide) rfl (by omega) (by omega) (by omega) ?_
  refine r_aloadS_n cd_Law_law_736 rfl ?_
  refine r_iload_n cd_Law_law_737 rfl ?_
  refine r_iconst cd_Law_law_738 ?_
  refine r_iadd cd_Law_law_739 ?_
  refine r_ialoadS (l := xs) cd_Law_law_740 rfl (by decide) rfl (by omega) (by omega) (by omega) ?_
  refine r_vv4 cd_Law_law_741 rfl ck_Law_law_F_race (Nat.le_of_ble_eq_true rfl) q0 rfl hF ?_
  refine r_aload_n cd_Law_law_744 rfl ?_
  refine r_aloadS_n cd_Law_law_745 rfl ?_
  refine r_iload_n cd_Law_law_746 rfl ?_
  refine r_iconst cd_Law_law_747 ?_
  refine r_iadd cd_Law_law_748 ?_
  refine r_ialoadS (l := xs) cd_Law_law_749 rfl (by decide) rfl (by omega) (by omega) (by omega) ?_
  refine r_aloadS_n cd_Law_law_750 rfl ?_
  refine r_iload_n cd_Law_law_751 rfl ?_
  refine r_iconst cd_Law_law_752 ?_
  refine r_iadd cd_Law_law_753 ?_
  refine r_ialoadS (l := xs) cd_Law_law_754 rfl (by decide) rfl (by omega) (by omega) (by omega) ?_
  refine r_aloadS_n cd_Law_law_755 rfl ?_
  refine r_iload_n cd_Law_law_756 rfl ?_
  refine r_iconst cd_Law_law_757 ?_
  refine r_iadd cd_Law_law_758 ?_
  refine r_ialoadS (l := xs) cd_Law_law_759 rfl (by decide) rfl (by omega) (by omega) (by omega) ?_
  refine r_aloadS_n cd_Law_law_760 rfl ?_
  refine r_iload_n cd_Law_law_761 rfl ?_
  refine r_iconst cd_Law_law_762 ?_
  refine r_iadd cd_Law_law_763 ?_
  refine r_ialoadS (l := xs) cd_Law_law_764 rfl (by decide) rfl (by omega) (by omega) (by omega) ?_
  refine r_vv4 cd_Law_law_765 rfl ck_Law_law_M_race (Nat.le_of_ble_eq_true rfl) hq rfl hM ?_
  refine r_lcmp cd_Law_law_768 ⟨by omega, by omega⟩ ⟨by omega, by omega⟩ ?_
  refine r_if_eq cd_Law_law_769 ⟨by omega, by omega⟩ (fun c_769 => ?_) (fun c_769 => ?_)
  · skip
    exact e9
  · skip
    exact absurd hl c_769
theorem lw_seen {i : Int} (hx : ∀ z ∈ xs, inR z) (i0 : 0 ≤ i) (i1 : i ≤ (xs.length : Int) - 7) (hL : xs.length ≤ 448) (hI : Inv h) (e : ∀ h2 : MH, Inv h2 → LE xs 994 i h2) : LE xs 774 i h := by
  obtain ⟨f0, q0⟩ := inv_r0 hI
  have hb := at_in hx (j := i + 2) (by omega) (by omega)
  obtain ⟨b1, b2⟩ := hb
  by_cases z : at_ xs (i + 2) = 0
  · skip
    obtain ⟨r, h1, h2, hF, hM, h3, hr, fs, hq⟩ := sv_seen (xs := xs) hI (at_in hx (j := i + 1) (by omega) (by omega)) (Or.inl rfl)
    obtain ⟨h4, h5, e9⟩ := e h2 h3
    refine ⟨h4, h5, ?_⟩
    obtain ⟨r1, r2⟩ := id hr
    refine r_aload_n cd_Law_law_774 rfl ?_
    refine r_aloadS_n cd_Law_law_775 rfl ?_
    refine r_iload_n cd_Law_law_776 rfl ?_
    refine r_iconst cd_Law_law_777 ?_
    refine r_iadd cd_Law_law_778 ?_
    refine r_ialoadS (l := xs) cd_Law_law_779 rfl (by decide) rfl (by omega) (by omega) (by omega) ?_
    refine r_aloadS_n cd_Law_law_780 rfl ?_
    refine r_iload_n cd_Law_law_781 rfl ?_
    refine r_iconst cd_Law_law_782 ?_
    refine r_iadd cd_Law_law_783 ?_
    refine r_ialoadS (l := xs) cd_Law_law_784 rfl (by decide) rfl (by omega) (by omega) (by omega) ?_
    refine r_if_eq cd_Law_law_785 ⟨by omega, by omega⟩ (fun c_785 => ?_) (fun c_785 => ?_)
    · skip
      refine r_iconst cd_Law_law_792 ?_
      refine r_vv2 cd_Law_law_793 rfl ck_Law_law_F_seen (Nat.le_of_ble_eq_true rfl) q0 rfl hF ?_
      refine r_aload_n cd_Law_law_796 rfl ?_
      refine r_aloadS_n cd_Law_law_797 rfl ?_
      refine r_iload_n cd_Law_law_798 rfl ?_
      refine r_iconst cd_Law_law_799 ?_
      refine r_iadd cd_Law_law_800 ?_
      refine r_ialoadS (l := xs) cd_Law_law_801 rfl (by decide) rfl (by omega) (by omega) (by omega) ?_
      refine r_aloadS_n cd_Law_law_802 rfl ?_
      refine r_iload_n cd_Law_law_803 rfl ?_
      refine r_iconst cd_Law_law_804 ?_
      refine r_iadd cd_Law_law_805 ?_
      refine r_ialoadS (l := xs) cd_Law_law_806 rfl (by decide) rfl (by omega) (by omega) (by omega) ?_
      refine r_if_eq cd_Law_law_807 ⟨by omega, by omega⟩ (fun c_807 => ?_) (fun c_807 => ?_)
      · skip
        refine r_iconst cd_Law_law_814 ?_
        refine r_vv2 cd_Law_law_815 rfl ck_Law_law_M_seen (Nat.le_of_ble_eq_true rfl) hq rfl hM ?_
        refine r_icmp_eq cd_Law_law_818 ⟨by omega, by omega⟩ ⟨by omega, by omega⟩ (fun c_818 => ?_) (fun c_818 => ?_)
        · skip
          exact e9
        · skip
          exact absurd rfl c_818
      · skip
        exact absurd z c_807
    · skip
      exact absurd z c_785
  · skip
    obtain ⟨r, h1, h2, hF, hM, h3, hr, fs, hq⟩ := sv_seen (xs := xs) hI (at_in hx (j := i + 1) (by omega) (by omega)) (Or.inr rfl)
    obtain ⟨h4, h5, e9⟩ := e h2 h3
    refine ⟨h4, h5, ?_⟩
    obtain ⟨r1, r2⟩ := id hr
    refine r_aload_n cd_Law_law_774 rfl ?_
    refine r_aloadS_n cd_Law_law_775 rfl ?_
    refine r_iload_n cd_Law_law_776 rfl ?_
    refine r_iconst cd_Law_law_777 ?_
    refine r_iadd cd_Law_law_778 ?_
    refine r_ialoadS (l := xs) cd_Law_law_779 rfl (by decide) rfl (by omega) (by omega) (by omega) ?_
    refine r_aloadS_n cd_Law_law_780 rfl ?_
    refine r_iload_n cd_Law_law_781 rfl ?_
    refine r_iconst cd_Law_law_782 ?_
    refine r_iadd cd_Law_law_783 ?_
    refine r_ialoadS (l := xs) cd_Law_law_784 rfl (by decide) rfl (by omega) (by omega) (by omega) ?_
    refine r_if_eq cd_Law_law_785 ⟨by omega, by omega⟩ (fun c_785 => ?_) (fun c_785 => ?_)
    · skip
      exact absurd c_785 z
    · skip
      refine r_iconst cd_Law_law_788 ?_
      refine r_goto cd_Law_law_789 ?_
      refine r_vv2 cd_Law_law_793 rfl ck_Law_law_F_seen (Nat.le_of_ble_eq_true rfl) q0 rfl hF ?_
      refine r_aload_n cd_Law_law_796 rfl ?_
      refine r_aloadS_n cd_Law_law_797 rfl ?_
      refine r_iload_n cd_Law_law_798 rfl ?_
      refine r_iconst cd_Law_law_799 ?_
      refine r_iadd cd_Law_law_800 ?_
      refine r_ialoadS (l := xs) cd_Law_law_801 rfl (by decide) rfl (by omega) (by omega) (by omega) ?_
      refine r_aloadS_n cd_Law_law_802 rfl ?_
      refine r_iload_n cd_Law_law_803 rfl ?_
      refine r_iconst cd_Law_law_804 ?_
      refine r_iadd cd_Law_law_805 ?_
      refine r_ialoadS (l := xs) cd_Law_law_806 rfl (by decide) rfl (by omega) (by omega) (by omega) ?_
      refine r_if_eq cd_Law_law_807 ⟨by omega, by omega⟩ (fun c_807 => ?_) (fun c_807 => ?_)
      · skip
        exact absurd c_807 z
      · skip
        refine r_iconst cd_Law_law_810 ?_
        refine r_goto cd_Law_law_811 ?_
        refine r_vv2 cd_Law_law_815 rfl ck_Law_law_M_seen (Nat.le_of_ble_eq_true rfl) hq rfl hM ?_
        refine r_icmp_eq cd_Law_law_818 ⟨by omega, by omega⟩ ⟨by omega, by omega⟩ (fun c_818 => ?_) (fun c_818 => ?_)
        · skip
          exact e9
        · skip
          exact absurd rfl c_818
theorem lw_forget {i : Int} (hx : ∀ z ∈ xs, inR z) (i0 : 0 ≤ i) (i1 : i ≤ (xs.length : Int) - 7) (hL : xs.length ≤ 448) (hI : Inv h) (e : ∀ h2 : MH, Inv h2 → LE xs 994 i h2) : LE xs 823 i h := by
  obtain ⟨f0, q0⟩ := inv_r0 hI
  obtain ⟨r, h1, h2, hF, hM, h3, hr, fs, hq⟩ := sv_forget (xs := xs) hI
  obtain ⟨h4, h5, e9⟩ := e h2 h3
  refine ⟨h4, h5, ?_⟩
  obtain ⟨r1, r2⟩ := id hr
  refine r_aload_n cd_Law_law_823 rfl ?_
  refine r_vv0 cd_Law_law_824 rfl ck_Law_law_F_forget (Nat.le_of_ble_eq_true rfl) q0 rfl hF ?_
  refine r_aload_n cd_Law_law_827 rfl ?_
  refine r_vv0 cd_Law_law_828 rfl ck_Law_law_M_forget (Nat.le_of_ble_eq_true rfl) hq rfl hM ?_
  refine r_icmp_eq cd_Law_law_831 ⟨by omega, by omega⟩ ⟨by omega, by omega⟩ (fun c_831 => ?_) (fun c_831 => ?_)
  · skip
    exact e9
  · skip
    exact absurd rfl c_831
theorem lw_fits {i : Int} (hx : ∀ z ∈ xs, inR z) (i0 : 0 ≤ i) (i1 : i ≤ (xs.length : Int) - 7) (hL : xs.length ≤ 448) (hI : Inv h) (e : ∀ h2 : MH, Inv h2 → LE xs 994 i h2) : LE xs 836 i h := by
  obtain ⟨f0, q0⟩ := inv_r0 hI
  obtain ⟨r, h1, h2, hF, hM, h3, hr, fs, hq⟩ := sv_fits (xs := xs) hI (at_in hx (j := i + 1) (by omega) (by omega))
  obtain ⟨h4, h5, e9⟩ := e h2 h3
  refine ⟨h4, h5, ?_⟩
  obtain ⟨r1, r2⟩ := id hr
  refine r_aload_n cd_Law_law_836 rfl ?_
  refine r_aloadS_n cd_Law_law_837 rfl ?_
  refine r_iload_n cd_Law_law_838 rfl ?_
  refine r_iconst cd_Law_law_839 ?_
  refine r_iadd cd_Law_law_840 ?_
  refine r_ialoadS (l := xs) cd_Law_law_841 rfl (by decide) rfl (by omega) (by omega) (by omega) ?_
  refine r_vv1 cd_Law_law_842 rfl ck_Law_law_F_fits (Nat.le_of_ble_eq_true rfl) q0 rfl hF ?_
  refine r_aload_n cd_Law_law_845 rfl ?_
  refine r_aloadS_n cd_Law_law_846 rfl ?_
  refine r_iload_n cd_Law_law_847 rfl ?_
  refine r_iconst cd_Law_law_848 ?_
  refine r_iadd cd_Law_law_849 ?_
  refine r_ialoadS (l := xs) cd_Law_law_850 rfl (by decide) rfl (by omega) (by omega) (by omega) ?_
  refine r_vv1 cd_Law_law_851 rfl ck_Law_law_M_fits (Nat.le_of_ble_eq_true rfl) hq rfl hM ?_
  refine r_icmp_eq cd_Law_law_854 ⟨by omega, by omega⟩ ⟨by omega, by omega⟩ (fun c_854 => ?_) (fun c_854 => ?_)
  · skip
    exact e9
  · skip
    exact absurd rfl c_854
theorem lw_ask {i : Int} (hx : ∀ z ∈ xs, inR z) (i0 : 0 ≤ i) (i1 : i ≤ (xs.length : Int) - 7) (hL : xs.length ≤ 448) (hI : Inv h) (e : ∀ h2 : MH, Inv h2 → LE xs 994 i h2) : LE xs 859 i h := by
  obtain ⟨f0, q0⟩ := inv_r0 hI
  obtain ⟨r, h1, h2, hF, hM, h3, hr, fs, hq⟩ := sv_ask (xs := xs) hI (at_in hx (j := i + 1) (by omega) (by omega))
  obtain ⟨h4, h5, e9⟩ := e h2 h3
  refine ⟨h4, h5, ?_⟩
  obtain ⟨r1, r2⟩ := id hr
  refine r_aload_n cd_Law_law_859 rfl ?_
  refine r_aloadS_n cd_Law_law_860 rfl ?_
  refine r_iload_n cd_Law_law_861 rfl ?_
  refine r_iconst cd_Law_law_862 ?_
  refine r_iadd cd_Law_law_863 ?_
  refine r_ialoadS (l := xs) cd_Law_law_864 rfl (by decide) rfl (by omega) (by omega) (by omega) ?_
  refine r_vv1 cd_Law_law_865 rfl ck_Law_law_F_ask (Nat.le_of_ble_eq_true rfl) q0 rfl hF ?_
  refine r_aload_n cd_Law_law_868 rfl ?_
  refine r_aloadS_n cd_Law_law_869 rfl ?_
  refine r_iload_n cd_Law_law_870 rfl ?_
  refine r_iconst cd_Law_law_871 ?_
  refine r_iadd cd_Law_law_872 ?_
  refine r_ialoadS (l := xs) cd_Law_law_873 rfl (by decide) rfl (by omega) (by omega) (by omega) ?_
  refine r_vv1 cd_Law_law_874 rfl ck_Law_law_M_ask (Nat.le_of_ble_eq_true rfl) hq rfl hM ?_
  refine r_icmp_eq cd_Law_law_877 ⟨by omega, by omega⟩ ⟨by omega, by omega⟩ (fun c_877 => ?_) (fun c_877 => ?_)
  · skip
    exact e9
  · skip
    exact absurd rfl c_877
theorem lw_year {i : Int} (hx : ∀ z ∈ xs, inR z) (i0 : 0 ≤ i) (i1 : i ≤ (xs.length : Int) - 7) (hL : xs.length ≤ 448) (hI : Inv h) (e : ∀ h2 : MH, Inv h2 → LE xs 994 i h2) : LE xs 882 i h := by
  obtain ⟨f0, q0⟩ := inv_r0 hI
  obtain ⟨r, h1, h2, hF, hM, h3, hr, fs, hq⟩ := sv_year (xs := xs) hI (at_in hx (j := i + 1) (by omega) (by omega)) (at_in hx (j := i + 2) (by omega) (by omega)) (at_in hx (j := i + 3) (by omega) (by omega))
  obtain ⟨h4, h5, e9⟩ := e h2 h3
  refine ⟨h4, h5, ?_⟩
  obtain ⟨r1, r2⟩ := id hr
  refine r_aload_n cd_Law_law_882 rfl ?_
  refine r_aloadS_n cd_Law_law_883 rfl ?_
  refine r_iload_n cd_Law_law_884 rfl ?_
  refine r_iconst cd_Law_law_885 ?_
  refine r_iadd cd_Law_law_886 ?_
  refine r_ialoadS (l := xs) cd_Law_law_887 rfl (by decide) rfl (by omega) (by omega) (by omega) ?_
  refine r_aloadS_n cd_Law_law_888 rfl ?_
  refine r_iload_n cd_Law_law_889 rfl ?_
  refine r_iconst cd_Law_law_890 ?_
  refine r_iadd cd_Law_law_891 ?_
  refine r_ialoadS (l := xs) cd_Law_law_892 rfl (by decide) rfl (by omega) (by omega) (by omega) ?_
  refine r_aloadS_n cd_Law_law_893 rfl ?_
  refine r_iload_n cd_Law_law_894 rfl ?_
  refine r_iconst cd_Law_law_895 ?_
  refine r_iadd cd_Law_law_896 ?_
  refine r_ialoadS (l := xs) cd_Law_law_897 rfl (by decide) rfl (by omega) (by omega) (by omega) ?_
  refine r_vv3 cd_Law_law_898 rfl ck_Law_law_F_year (Nat.le_of_ble_eq_true rfl) q0 rfl hF ?_
  refine r_aload_n cd_Law_law_901 rfl ?_
  refine r_aloadS_n cd_Law_law_902 rfl ?_
  refine r_iload_n cd_Law_law_903 rfl ?_
  refine r_iconst cd_Law_law_904 ?_
  refine r_iadd cd_Law_law_905 ?_
  refine r_ialoadS (l := xs) cd_Law_law_906 rfl (by decide) rfl (by omega) (by omega) (by omega) ?_
  refine r_aloadS_n cd_Law_law_907 rfl ?_
  refine r_iload_n cd_Law_law_908 rfl ?_
  refine r_iconst cd_Law_law_909 ?_
  refine r_iadd cd_Law_law_910 ?_
  refine r_ialoadS (l := xs) cd_Law_law_911 rfl (by decide) rfl (by omega) (by omega) (by omega) ?_
  refine r_aloadS_n cd_Law_law_912 rfl ?_
  refine r_iload_n cd_Law_law_913 rfl ?_
  refine r_iconst cd_Law_law_914 ?_
  refine r_iadd cd_Law_law_915 ?_
  refine r_ialoadS (l := xs) cd_Law_law_916 rfl (by decide) rfl (by omega) (by omega) (by omega) ?_
  refine r_vv3 cd_Law_law_917 rfl ck_Law_law_M_year (Nat.le_of_ble_eq_true rfl) hq rfl hM ?_
  refine r_icmp_eq cd_Law_law_920 ⟨by omega, by omega⟩ ⟨by omega, by omega⟩ (fun c_920 => ?_) (fun c_920 => ?_)
  · skip
    exact e9
  · skip
    exact absurd rfl c_920
theorem lw_image {i : Int} (hx : ∀ z ∈ xs, inR z) (i0 : 0 ≤ i) (i1 : i ≤ (xs.length : Int) - 7) (hL : xs.length ≤ 448) (hI : Inv h) (e : ∀ h2 : MH, Inv h2 → LE xs 994 i h2) : LE xs 925 i h := by
  obtain ⟨f0, q0⟩ := inv_r0 hI
  obtain ⟨r, h1, h2, hF, hM, h3, hr, fs, hq⟩ := sv_image (xs := xs) hI (at_in hx (j := i + 1) (by omega) (by omega))
  obtain ⟨h4, h5, e9⟩ := e h2 h3
  refine ⟨h4, h5, ?_⟩
  obtain ⟨r1, r2⟩ := id hr
  refine r_aload_n cd_Law_law_925 rfl ?_
  refine r_aloadS_n cd_Law_law_926 rfl ?_
  refine r_iload_n cd_Law_law_927 rfl ?_
  refine r_iconst cd_Law_law_928 ?_
  refine r_iadd cd_Law_law_929 ?_
  refine r_ialoadS (l := xs) cd_Law_law_930 rfl (by decide) rfl (by omega) (by omega) (by omega) ?_
  refine r_vv1 cd_Law_law_931 rfl ck_Law_law_F_image (Nat.le_of_ble_eq_true rfl) q0 rfl hF ?_
  refine r_aload_n cd_Law_law_934 rfl ?_
  refine r_aloadS_n cd_Law_law_935 rfl ?_
  refine r_iload_n cd_Law_law_936 rfl ?_
  refine r_iconst cd_Law_law_937 ?_
  refine r_iadd cd_Law_law_938 ?_
  refine r_ialoadS (l := xs) cd_Law_law_939 rfl (by decide) rfl (by omega) (by omega) (by omega) ?_
  refine r_vv1 cd_Law_law_940 rfl ck_Law_law_M_image (Nat.le_of_ble_eq_true rfl) hq rfl hM ?_
  refine r_icmp_eq cd_Law_law_943 ⟨by omega, by omega⟩ ⟨by omega, by omega⟩ (fun c_943 => ?_) (fun c_943 => ?_)
  · skip
    exact e9
  · skip
    exact absurd rfl c_943
theorem lw_restore {i : Int} (hx : ∀ z ∈ xs, inR z) (i0 : 0 ≤ i) (i1 : i ≤ (xs.length : Int) - 7) (hL : xs.length ≤ 448) (hI : Inv h) (e : ∀ h2 : MH, Inv h2 → LE xs 994 i h2) : LE xs 948 i h := by
  obtain ⟨f0, q0⟩ := inv_r0 hI
  obtain ⟨r, h1, h2, hF, hM, h3, hr, fs, hq⟩ := sv_restore (xs := xs) hI (at_in hx (j := i + 1) (by omega) (by omega))
  obtain ⟨h4, h5, e9⟩ := e h2 h3
  refine ⟨h4, h5, ?_⟩
  obtain ⟨r1, r2⟩ := id hr
  refine r_aload_n cd_Law_law_948 rfl ?_
  refine r_aloadS_n cd_Law_law_949 rfl ?_
  refine r_iload_n cd_Law_law_950 rfl ?_
  refine r_iconst cd_Law_law_951 ?_
  refine r_iadd cd_Law_law_952 ?_
  refine r_ialoadS (l := xs) cd_Law_law_953 rfl (by decide) rfl (by omega) (by omega) (by omega) ?_
  refine r_vv1 cd_Law_law_954 rfl ck_Law_law_F_restore (Nat.le_of_ble_eq_true rfl) q0 rfl hF ?_
  refine r_aload_n cd_Law_law_957 rfl ?_
  refine r_aloadS_n cd_Law_law_958 rfl ?_
  refine r_iload_n cd_Law_law_959 rfl ?_
  refine r_iconst cd_Law_law_960 ?_
  refine r_iadd cd_Law_law_961 ?_
  refine r_ialoadS (l := xs) cd_Law_law_962 rfl (by decide) rfl (by omega) (by omega) (by omega) ?_
  refine r_vv1 cd_Law_law_963 rfl ck_Law_law_M_restore (Nat.le_of_ble_eq_true rfl) hq rfl hM ?_
  refine r_icmp_eq cd_Law_law_966 ⟨by omega, by omega⟩ ⟨by omega, by omega⟩ (fun c_966 => ?_) (fun c_966 => ?_)
  · skip
    exact e9
  · skip
    exact absurd rfl c_966
theorem lw_told {i : Int} (hx : ∀ z ∈ xs, inR z) (i0 : 0 ≤ i) (i1 : i ≤ (xs.length : Int) - 7) (hL : xs.length ≤ 448) (hI : Inv h) (e : ∀ h2 : MH, Inv h2 → LE xs 994 i h2) : LE xs 971 i h := by
  obtain ⟨f0, q0⟩ := inv_r0 hI
  obtain ⟨r, h1, h2, hF, hM, h3, hr, fs, hq⟩ := sv_told (xs := xs) hI (at_in hx (j := i + 1) (by omega) (by omega))
  obtain ⟨h4, h5, e9⟩ := e h2 h3
  refine ⟨h4, h5, ?_⟩
  obtain ⟨r1, r2⟩ := id hr
  refine r_aload_n cd_Law_law_971 rfl ?_
  refine r_aloadS_n cd_Law_law_972 rfl ?_
  refine r_iload_n cd_Law_law_973 rfl ?_
  refine r_iconst cd_Law_law_974 ?_
  refine r_iadd cd_Law_law_975 ?_
  refine r_ialoadS (l := xs) cd_Law_law_976 rfl (by decide) rfl (by omega) (by omega) (by omega) ?_
  refine r_vv1 cd_Law_law_977 rfl ck_Law_law_F_told (Nat.le_of_ble_eq_true rfl) q0 rfl hF ?_
  refine r_aload_n cd_Law_law_980 rfl ?_
  refine r_aloadS_n cd_Law_law_981 rfl ?_
  refine r_iload_n cd_Law_law_982 rfl ?_
  refine r_iconst cd_Law_law_983 ?_
  refine r_iadd cd_Law_law_984 ?_
  refine r_ialoadS (l := xs) cd_Law_law_985 rfl (by decide) rfl (by omega) (by omega) (by omega) ?_
  refine r_vv1 cd_Law_law_986 rfl ck_Law_law_M_told (Nat.le_of_ble_eq_true rfl) hq rfl hM ?_
  refine r_icmp_eq cd_Law_law_989 ⟨by omega, by omega⟩ ⟨by omega, by omega⟩ (fun c_989 => ?_) (fun c_989 => ?_)
  · skip
    exact e9
  · skip
    exact absurd rfl c_989
theorem lp_law (hx : ∀ z ∈ xs, inR z) (hL : xs.length ≤ 448) : ∀ (k : Nat) (i : Int) (h : MH), 0 ≤ i → i ≤ 1000 → (xs.length : Int) - i ≤ 7 * k → Inv h → LE xs 18 i h := by
  intro k
  induction k with
  | zero =>
    intro i h i0 i2 i1 hI
    refine ⟨h, hI, ?_⟩
    refine r_iload_n cd_Law_law_18 rfl ?_
    refine r_aloadS_n cd_Law_law_19 rfl ?_
    refine r_arraylengthS (l := xs) cd_Law_law_20 rfl (by decide) rfl ?_
    refine r_bipush cd_Law_law_21 ?_
    refine r_isub cd_Law_law_23 ?_
    refine r_icmp_gt cd_Law_law_24 ⟨by omega, by omega⟩ ⟨by omega, by omega⟩ (fun c_24 => ?_) (fun c_24 => ?_)
    · skip
      refine r_iconst cd_Law_law_1000 ?_
      exact r_zretc cd_Law_law_1001 rt_Law_law (by decide) (by rfl) (by rfl)
    · skip
      omega
  | succ k ih =>
    intro i h i0 i2 i1 hI
    by_cases z : (xs.length : Int) - 7 < i
    · refine ⟨h, hI, ?_⟩
      refine r_iload_n cd_Law_law_18 rfl ?_
      refine r_aloadS_n cd_Law_law_19 rfl ?_
      refine r_arraylengthS (l := xs) cd_Law_law_20 rfl (by decide) rfl ?_
      refine r_bipush cd_Law_law_21 ?_
      refine r_isub cd_Law_law_23 ?_
      refine r_icmp_gt cd_Law_law_24 ⟨by omega, by omega⟩ ⟨by omega, by omega⟩ (fun c_24 => ?_) (fun c_24 => ?_)
      · skip
        refine r_iconst cd_Law_law_1000 ?_
        exact r_zretc cd_Law_law_1001 rt_Law_law (by decide) (by rfl) (by rfl)
      · skip
        omega
    · have e : ∀ h2 : MH, Inv h2 → LE xs 994 i h2 := by
        intro h2 hI2
        obtain ⟨h4, h5, e9⟩ := ih (i + 7) h2 (by omega) (by omega) (by omega) hI2
        refine ⟨h4, h5, ?_⟩
        refine r_iinc4_3 cd_Law_law_994 rfl ?_
        refine r_goto cd_Law_law_997 ?_
        exact e9
      have hs := and31 (at_ xs i)
      have hsw : LE2 xs i h := by
        unfold LE2
        generalize bAnd (at_ xs i) 31 = s at *
        by_cases s0 : s = 0
        · obtain ⟨h4, h5, e9⟩ := lw_slide hx i0 (by omega) hL hI e
          refine ⟨h4, h5, ?_⟩
          rw [s0]
          refine r_switch (t := 156) cd_Law_law_33 ⟨by decide, by decide⟩ (by decide) ?_
          exact e9
        by_cases s1 : s = 1
        · obtain ⟨h4, h5, e9⟩ := lw_hold hx i0 (by omega) hL hI e
          refine ⟨h4, h5, ?_⟩
          rw [s1]
          refine r_switch (t := 189) cd_Law_law_33 ⟨by decide, by decide⟩ (by decide) ?_
          exact e9
        by_cases s2 : s = 2
        · obtain ⟨h4, h5, e9⟩ := lw_ball hx i0 (by omega) hL hI e
          refine ⟨h4, h5, ?_⟩
          rw [s2]
          refine r_switch (t := 238) cd_Law_law_33 ⟨by decide, by decide⟩ (by decide) ?_
          exact e9
        by_cases s3 : s = 3
        · obtain ⟨h4, h5, e9⟩ := lw_goals hx i0 (by omega) hL hI e
          refine ⟨h4, h5, ?_⟩
          rw [s3]
          refine r_switch (t := 271) cd_Law_law_33 ⟨by decide, by decide⟩ (by decide) ?_
          exact e9
        by_cases s4 : s = 4
        · obtain ⟨h4, h5, e9⟩ := lw_say hx i0 (by omega) hL hI e
          refine ⟨h4, h5, ?_⟩
          rw [s4]
          refine r_switch (t := 304) cd_Law_law_33 ⟨by decide, by decide⟩ (by decide) ?_
          exact e9
        by_cases s5 : s = 5
        · obtain ⟨h4, h5, e9⟩ := lw_wipe hx i0 (by omega) hL hI e
          refine ⟨h4, h5, ?_⟩
          rw [s5]
          refine r_switch (t := 327) cd_Law_law_33 ⟨by decide, by decide⟩ (by decide) ?_
          exact e9
        by_cases s6 : s = 6
        · obtain ⟨h4, h5, e9⟩ := lw_fault hx i0 (by omega) hL hI e
          refine ⟨h4, h5, ?_⟩
          rw [s6]
          refine r_switch (t := 340) cd_Law_law_33 ⟨by decide, by decide⟩ (by decide) ?_
          exact e9
        by_cases s7 : s = 7
        · obtain ⟨h4, h5, e9⟩ := lw_judge hx i0 (by omega) hL hI e
          refine ⟨h4, h5, ?_⟩
          rw [s7]
          refine r_switch (t := 353) cd_Law_law_33 ⟨by decide, by decide⟩ (by decide) ?_
          exact e9
        by_cases s8 : s = 8
        · obtain ⟨h4, h5, e9⟩ := lw_done hx i0 (by omega) hL hI e
          refine ⟨h4, h5, ?_⟩
          rw [s8]
          refine r_switch (t := 376) cd_Law_law_33 ⟨by decide, by decide⟩ (by decide) ?_
          exact e9
        by_cases s9 : s = 9
        · obtain ⟨h4, h5, e9⟩ := lw_behind hx i0 (by omega) hL hI e
          refine ⟨h4, h5, ?_⟩
          rw [s9]
          refine r_switch (t := 389) cd_Law_law_33 ⟨by decide, by decide⟩ (by decide) ?_
          exact e9
        by_cases s10 : s = 10
        · obtain ⟨h4, h5, e9⟩ := lw_then hx i0 (by omega) hL hI e
          refine ⟨h4, h5, ?_⟩
          rw [s10]
          refine r_switch (t := 422) cd_Law_law_33 ⟨by decide, by decide⟩ (by decide) ?_
          exact e9
        by_cases s11 : s = 11
        · obtain ⟨h4, h5, e9⟩ := lw_ends hx i0 (by omega) hL hI e
          refine ⟨h4, h5, ?_⟩
          rw [s11]
          refine r_switch (t := 445) cd_Law_law_33 ⟨by decide, by decide⟩ (by decide) ?_
          exact e9
        by_cases s12 : s = 12
        · obtain ⟨h4, h5, e9⟩ := lw_goesIn hx i0 (by omega) hL hI e
          refine ⟨h4, h5, ?_⟩
          rw [s12]
          refine r_switch (t := 468) cd_Law_law_33 ⟨by decide, by decide⟩ (by decide) ?_
          exact e9
        by_cases s13 : s = 13
        · obtain ⟨h4, h5, e9⟩ := lw_path hx i0 (by omega) hL hI e
          refine ⟨h4, h5, ?_⟩
          rw [s13]
          refine r_switch (t := 481) cd_Law_law_33 ⟨by decide, by decide⟩ (by decide) ?_
          exact e9
        by_cases s14 : s = 14
        · obtain ⟨h4, h5, e9⟩ := lw_stand hx i0 (by omega) hL hI e
          refine ⟨h4, h5, ?_⟩
          rw [s14]
          refine r_switch (t := 524) cd_Law_law_33 ⟨by decide, by decide⟩ (by decide) ?_
          exact e9
        by_cases s15 : s = 15
        · obtain ⟨h4, h5, e9⟩ := lw_mix hx i0 (by omega) hL hI e
          refine ⟨h4, h5, ?_⟩
          rw [s15]
          refine r_switch (t := 547) cd_Law_law_33 ⟨by decide, by decide⟩ (by decide) ?_
          exact e9
        by_cases s16 : s = 16
        · obtain ⟨h4, h5, e9⟩ := lw_hands hx i0 (by omega) hL hI e
          refine ⟨h4, h5, ?_⟩
          rw [s16]
          refine r_switch (t := 623) cd_Law_law_33 ⟨by decide, by decide⟩ (by decide) ?_
          exact e9
        by_cases s17 : s = 17
        · obtain ⟨h4, h5, e9⟩ := lw_truly hx i0 (by omega) hL hI e
          refine ⟨h4, h5, ?_⟩
          rw [s17]
          refine r_switch (t := 656) cd_Law_law_33 ⟨by decide, by decide⟩ (by decide) ?_
          exact e9
        by_cases s18 : s = 18
        · obtain ⟨h4, h5, e9⟩ := lw_race hx i0 (by omega) hL hI e
          refine ⟨h4, h5, ?_⟩
          rw [s18]
          refine r_switch (t := 720) cd_Law_law_33 ⟨by decide, by decide⟩ (by decide) ?_
          exact e9
        by_cases s19 : s = 19
        · obtain ⟨h4, h5, e9⟩ := lw_seen hx i0 (by omega) hL hI e
          refine ⟨h4, h5, ?_⟩
          rw [s19]
          refine r_switch (t := 774) cd_Law_law_33 ⟨by decide, by decide⟩ (by decide) ?_
          exact e9
        by_cases s20 : s = 20
        · obtain ⟨h4, h5, e9⟩ := lw_forget hx i0 (by omega) hL hI e
          refine ⟨h4, h5, ?_⟩
          rw [s20]
          refine r_switch (t := 823) cd_Law_law_33 ⟨by decide, by decide⟩ (by decide) ?_
          exact e9
        by_cases s21 : s = 21
        · obtain ⟨h4, h5, e9⟩ := lw_fits hx i0 (by omega) hL hI e
          refine ⟨h4, h5, ?_⟩
          rw [s21]
          refine r_switch (t := 836) cd_Law_law_33 ⟨by decide, by decide⟩ (by decide) ?_
          exact e9
        by_cases s22 : s = 22
        · obtain ⟨h4, h5, e9⟩ := lw_ask hx i0 (by omega) hL hI e
          refine ⟨h4, h5, ?_⟩
          rw [s22]
          refine r_switch (t := 859) cd_Law_law_33 ⟨by decide, by decide⟩ (by decide) ?_
          exact e9
        by_cases s23 : s = 23
        · obtain ⟨h4, h5, e9⟩ := lw_year hx i0 (by omega) hL hI e
          refine ⟨h4, h5, ?_⟩
          rw [s23]
          refine r_switch (t := 882) cd_Law_law_33 ⟨by decide, by decide⟩ (by decide) ?_
          exact e9
        by_cases s24 : s = 24
        · obtain ⟨h4, h5, e9⟩ := lw_image hx i0 (by omega) hL hI e
          refine ⟨h4, h5, ?_⟩
          rw [s24]
          refine r_switch (t := 925) cd_Law_law_33 ⟨by decide, by decide⟩ (by decide) ?_
          exact e9
        by_cases s25 : s = 25
        · obtain ⟨h4, h5, e9⟩ := lw_restore hx i0 (by omega) hL hI e
          refine ⟨h4, h5, ?_⟩
          rw [s25]
          refine r_switch (t := 948) cd_Law_law_33 ⟨by decide, by decide⟩ (by decide) ?_
          exact e9
        by_cases s26 : s = 26
        · obtain ⟨h4, h5, e9⟩ := lw_told hx i0 (by omega) hL hI e
          refine ⟨h4, h5, ?_⟩
          rw [s26]
          refine r_switch (t := 971) cd_Law_law_33 ⟨by decide, by decide⟩ (by decide) ?_
          exact e9
        obtain ⟨h4, h5, e9⟩ := e h hI
        refine ⟨h4, h5, ?_⟩
        refine r_switch (t := 994) cd_Law_law_33 ⟨by omega, by omega⟩ (by unfold swT; rw [if_pos (by omega)]; rfl) ?_
        exact e9
      obtain ⟨h4, h5, e9⟩ := hsw
      refine ⟨h4, h5, ?_⟩
      refine r_iload_n cd_Law_law_18 rfl ?_
      refine r_aloadS_n cd_Law_law_19 rfl ?_
      refine r_arraylengthS (l := xs) cd_Law_law_20 rfl (by decide) rfl ?_
      refine r_bipush cd_Law_law_21 ?_
      refine r_isub cd_Law_law_23 ?_
      refine r_icmp_gt cd_Law_law_24 ⟨by omega, by omega⟩ ⟨by omega, by omega⟩ (fun c_24 => ?_) (fun c_24 => ?_)
      · skip
        omega
      · skip
        refine r_aloadS_n cd_Law_law_27 rfl ?_
        refine r_iload_n cd_Law_law_28 rfl ?_
        refine r_ialoadS (l := xs) cd_Law_law_29 rfl (by decide) rfl (by omega) (by omega) (by omega) ?_
        refine r_bipush cd_Law_law_30 ?_
        refine r_iand cd_Law_law_32 ?_
        exact e9
end C87
