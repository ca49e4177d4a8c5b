-- the reference: the fault of the signs
section C67
variable {xs : List Int} {h : MH} {v dv : List Int} {mn mc sm om ga mr ma ax : Int}
def fsA (dv : List Int) (mc : Int) : Nat → Int → Int → Int
  | 0, _, st => if st = 0 then -6 else mc
  | f + 1, k, st => if stF st (at_ dv k) < 0 then k else fsA dv mc f (k + 1) (stF st (at_ dv k))
def fs (dv : List Int) (mc k st : Int) : Int := fsA dv mc (mc - k).toNat k st
theorem fs_end {k st : Int} (h : mc ≤ k) : fs dv mc k st = if st = 0 then -6 else mc := by
  unfold fs
  rw [show (mc - k).toNat = 0 by omega]
  rfl
theorem fs_next {k st : Int} (h : k < mc) : fs dv mc k st = if stF st (sg dv mc k) < 0 then k else fs dv mc (k + 1) (stF st (sg dv mc k)) := by
  unfold fs sg
  rw [show (mc - k).toNat = (mc - (k + 1)).toNat + 1 by omega, if_pos h]
  rfl
theorem stF_00 {st : Int} (h0 : 1 ≤ st) (h1 : st ≤ 7) : stF st 0 = -6 := by
  have : st = 1 ∨ st = 2 ∨ st = 3 ∨ st = 4 ∨ st = 5 ∨ st = 6 ∨ st = 7 := by omega
  rcases this with rfl | rfl | rfl | rfl | rfl | rfl | rfl <;> decide
theorem fs_mid {k st : Int} (h : k ≤ mc) (h0 : 1 ≤ st) (h1 : st ≤ 7) : fs dv mc k st = if stF st (sg dv mc k) < 0 then k else fs dv mc (k + 1) (stF st (sg dv mc k)) := by
  by_cases z : k < mc
  · exact fs_next z
  · rw [fs_end (by omega), if_neg (by omega)]
    have : sg dv mc k = 0 := by unfold sg; rw [if_neg z]
    rw [this, stF_00 h0 h1, if_pos (by decide)]
    omega
theorem stF_7s (s : Int) : stF 7 s = (if 97 ≤ s ∧ s ≤ 104 then 3 else -6) := by
  unfold stF
  rw [if_neg (by decide), if_neg (by decide), if_neg (by decide), if_neg (by decide), if_neg (by decide), if_neg (by decide), if_neg (by decide)]
theorem stF_6s (s : Int) : stF 6 s = (if 48 ≤ s ∧ s ≤ 57 then 0 else -6) := by
  unfold stF
  rw [if_neg (by decide), if_neg (by decide), if_neg (by decide), if_neg (by decide), if_neg (by decide), if_neg (by decide), if_pos rfl]
-- two signs, a last one that is good where P
theorem fs_last {k st : Int} {P : Prop} (h : k ≤ mc) (h0 : 1 ≤ st) (h1 : st ≤ 7) (hy : P → stF st (sg dv mc k) = 0) (hn : ¬ P → stF st (sg dv mc k) = -6) : (P → k < mc ∧ fs dv mc k st = fs dv mc (k + 1) 0) ∧ (¬ P → fs dv mc k st = k) := by
  refine ⟨fun z => ?_, fun z => ?_⟩
  · have e := hy z
    refine ⟨?_, ?_⟩
    · by_cases y : k < mc
      · exact y
      · have q : sg dv mc k = 0 := by unfold sg; rw [if_neg y]
        rw [q, stF_00 h0 h1] at e
        omega
    · rw [fs_mid h h0 h1, e, if_neg (by decide)]
  · rw [fs_mid h h0 h1, hn z, if_pos (by decide)]
theorem fa_step {f : Nat} {pl k r n x0 x1 x2 x3 x4 : Int} (hlt : ¬ mc ≤ pl) (e : rdq dv mc pl k = [x0, x1, x2, x3, x4]) : at_ (faA dv mc (f + 1) pl k r n) 0 = if x0 = 0 then x1 else at_ (faA dv mc f x1 x2 x3 x4) 0 := by
  have e1 : faA dv mc (f + 1) pl k r n = if x0 = 0 then [x1, x1, x2, x3, x4] else faA dv mc f x1 x2 x3 x4 := by
    conv => { lhs; unfold faA }
    rw [if_neg hlt, e]
    rfl
  rw [e1]
  split <;> rfl
theorem fs_fa : ∀ (f : Nat) (pl k r n : Int), 0 ≤ pl → pl ≤ mc → mc - pl ≤ f → fs dv mc pl 0 = at_ (faA dv mc f pl k r n) 0
  | 0, pl, k, r, n, h0, h1, h2 => by
    rw [fs_end (by omega), if_pos rfl]
    rfl
  | f + 1, pl, k, r, n, h0, h1, h2 => by
    by_cases hlt : mc ≤ pl
    · rw [fs_end hlt, if_pos rfl]
      unfold faA
      rw [if_pos hlt]
      rfl
    have IH := fun (p k r n : Int) (q0 : pl < p) (q1 : p ≤ mc) => fs_fa f p k r n (by omega) q1 (by omega)
    have hm : ∀ st : Int, 1 ≤ st → st ≤ 7 → stF 0 (sg dv mc pl) = st → fs dv mc pl 0 = fs dv mc (pl + 1) st := by
      intro st s0 s1 e
      rw [fs_next (by omega), e, if_neg (by omega)]
    have hA := stF_0 (sg dv mc pl)
    generalize ha : sg dv mc pl = a at *
    generalize hb : sg dv mc (pl + 1) = b at *
    generalize hc : sg dv mc (pl + 1 + 1) = c at *
    have hr : rdq dv mc pl k = rdA pl a b c k := by unfold rdq; rw [ha, hb, hc]
    by_cases z1 : a = 46
    · have e : rdA pl a b c k = [1, pl + 1, 8, -6, 0] := by unfold rdA; rw [if_pos z1]
      rw [fa_step hlt (hr.trans e), if_neg (by decide), fs_next (by omega), ha, z1, show stF 0 46 = 0 by decide, if_neg (by decide)]
      exact IH _ _ _ _ (by omega) (by omega)
    by_cases z2 : a = 112
    · have s3 := hm 3 (by decide) (by decide) (by rw [z2]; decide)
      have q := fs_last (dv := dv) (mc := mc) (k := pl + 1) (st := 3) (P := 0 ≤ b - 48 ∧ b - 48 ≤ 4) (by omega) (by decide) (by decide) (fun z => by rw [hb, stF_3, if_pos (by omega)]) (fun z => by rw [hb, stF_3, if_neg (by omega)])
      by_cases y : 0 ≤ b - 48 ∧ b - 48 ≤ 4
      · have e : rdA pl a b c k = [1, pl + 1 + 1, 4, -6, b - 48] := by unfold rdA; rw [if_neg z1, if_pos z2, if_pos y]
        have q1 := q.1 y
        rw [fa_step hlt (hr.trans e), if_neg (by decide), s3, q1.2]
        exact IH _ _ _ _ (by omega) (by omega)
      · have e : rdA pl a b c k = [0, pl + 1, 4, -6, 0] := by unfold rdA; rw [if_neg z1, if_pos z2, if_neg y]
        rw [fa_step hlt (hr.trans e), if_pos rfl, s3, q.2 y]
    by_cases z3 : a = 80
    · have s3 := hm 4 (by decide) (by decide) (by rw [z3]; decide)
      have q := fs_last (dv := dv) (mc := mc) (k := pl + 1) (st := 4) (P := 0 ≤ b - 97 ∧ b - 97 < 8) (by omega) (by decide) (by decide) (fun z => by rw [hb, stF_4, if_pos (by omega)]) (fun z => by rw [hb, stF_4, if_neg (by omega)])
      by_cases y : 0 ≤ b - 97 ∧ b - 97 < 8
      · have e : rdA pl a b c k = [1, pl + 1 + 1, 5, b - 97, 0] := by unfold rdA; rw [if_neg z1, if_neg z2, if_pos z3, if_pos y]
        have q1 := q.1 y
        rw [fa_step hlt (hr.trans e), if_neg (by decide), s3, q1.2]
        exact IH _ _ _ _ (by omega) (by omega)
      · have e : rdA pl a b c k = [0, pl + 1, 5, -6, 0] := by unfold rdA; rw [if_neg z1, if_neg z2, if_pos z3, if_neg y]
        rw [fa_step hlt (hr.trans e), if_pos rfl, s3, q.2 y]
    by_cases z4 : a = 115
    · have s3 := hm 5 (by decide) (by decide) (by rw [z4]; decide)
      have e0 : rdA pl a b c k = wyA (pl + 1) b c 6 (-6) 0 := by unfold rdA; rw [if_neg z1, if_neg z2, if_neg z3, if_pos z4]
      rw [e0] at hr
      have sb := fs_mid (dv := dv) (mc := mc) (k := pl + 1) (st := 5) (by omega) (by decide) (by decide)
      rw [hb, stF_5] at sb
      by_cases y : b = 62 ∨ b = 60
      · rw [if_pos (show b = 60 ∨ b = 62 by omega), if_neg (by decide)] at sb
        have hlt2 : pl + 1 < mc := by
          by_cases w : pl + 1 < mc
          · exact w
          · unfold sg at hb; rw [if_neg w] at hb; omega
        have q := fs_last (dv := dv) (mc := mc) (k := pl + 1 + 1) (st := 6) (P := 0 ≤ c - 48 ∧ c - 48 ≤ 9) (by omega) (by decide) (by decide) (fun z => by rw [hc, stF_6s, if_pos (by omega)]) (fun z => by rw [hc, stF_6s, if_neg (by omega)])
        by_cases x : 0 ≤ c - 48 ∧ c - 48 ≤ 9
        · have q1 := q.1 x
          rcases y with y | y
          · have e : wyA (pl + 1) b c 6 (-6) 0 = [1, pl + 1 + 1 + 1, 6, -6, c - 48] := by unfold wyA; rw [if_pos y, if_pos x]
            rw [fa_step hlt (hr.trans e), if_neg (by decide), s3, sb, q1.2]
            exact IH _ _ _ _ (by omega) (by omega)
          · have e : wyA (pl + 1) b c 6 (-6) 0 = [1, pl + 1 + 1 + 1, 6, -6, -(c - 48)] := by unfold wyA; rw [if_neg (by omega), if_pos y, if_pos x]
            rw [fa_step hlt (hr.trans e), if_neg (by decide), s3, sb, q1.2]
            exact IH _ _ _ _ (by omega) (by omega)
        · have q1 := q.2 x
          have e : wyA (pl + 1) b c 6 (-6) 0 = [0, pl + 1 + 1, 6, -6, 0] := by
            unfold wyA
            rcases y with y | y
            · rw [if_pos y, if_neg x]
            · rw [if_neg (by omega), if_pos y, if_neg x]
          rw [fa_step hlt (hr.trans e), if_pos rfl, s3, sb, q1]
      · rw [if_neg (show ¬ (b = 60 ∨ b = 62) by omega), if_pos (by decide)] at sb
        have e : wyA (pl + 1) b c 6 (-6) 0 = [0, pl + 1, 6, -6, 0] := by unfold wyA; rw [if_neg (by omega), if_neg (by omega)]
        rw [fa_step hlt (hr.trans e), if_pos rfl, s3, sb]
    by_cases z5 : a = 33
    · have s3 := hm 7 (by decide) (by decide) (by rw [z5]; decide)
      have sb := fs_mid (dv := dv) (mc := mc) (k := pl + 1) (st := 7) (by omega) (by decide) (by decide)
      rw [hb, stF_7s] at sb
      by_cases y : 0 ≤ b - 97 ∧ b - 97 < 8
      · rw [if_pos (show 97 ≤ b ∧ b ≤ 104 by omega), if_neg (by decide)] at sb
        have hlt2 : pl + 1 < mc := by
          by_cases w : pl + 1 < mc
          · exact w
          · unfold sg at hb; rw [if_neg w] at hb; omega
        have q := fs_last (dv := dv) (mc := mc) (k := pl + 1 + 1) (st := 3) (P := 0 ≤ c - 48 ∧ c - 48 ≤ 4) (by omega) (by decide) (by decide) (fun z => by rw [hc, stF_3, if_pos (by omega)]) (fun z => by rw [hc, stF_3, if_neg (by omega)])
        by_cases x : 0 ≤ c - 48 ∧ c - 48 ≤ 4
        · have q1 := q.1 x
          have e : rdA pl a b c k = [1, pl + 1 + 1 + 1, 7, b - 97, c - 48] := by unfold rdA; rw [if_neg z1, if_neg z2, if_neg z3, if_neg z4, if_pos z5, if_pos y, if_pos x]
          rw [fa_step hlt (hr.trans e), if_neg (by decide), s3, sb, q1.2]
          exact IH _ _ _ _ (by omega) (by omega)
        · have e : rdA pl a b c k = [0, pl + 1 + 1, 7, b - 97, 0] := by unfold rdA; rw [if_neg z1, if_neg z2, if_neg z3, if_neg z4, if_pos z5, if_pos y, if_neg x]
          rw [fa_step hlt (hr.trans e), if_pos rfl, s3, sb, q.2 x]
      · rw [if_neg (show ¬ (97 ≤ b ∧ b ≤ 104) by omega), if_pos (by decide)] at sb
        have e : rdA pl a b c k = [0, pl + 1, 7, -6, 0] := by unfold rdA; rw [if_neg z1, if_neg z2, if_neg z3, if_neg z4, if_pos z5, if_neg y]
        rw [fa_step hlt (hr.trans e), if_pos rfl, s3, sb]
    by_cases z6 : 0 ≤ a - 97 ∧ a - 97 < 8
    · have s3 := hm 1 (by decide) (by decide) (by rw [hA, if_pos (by omega)])
      have e0 : rdA pl a b c k = hdA (pl + 1) b c k (a - 97) 0 := by unfold rdA; rw [if_neg z1, if_neg z2, if_neg z3, if_neg z4, if_neg z5, if_pos z6]
      rw [e0] at hr
      have sb := fs_mid (dv := dv) (mc := mc) (k := pl + 1) (st := 1) (by omega) (by decide) (by decide)
      rw [hb, stF_1] at sb
      have hlt2 : b ≠ 0 → pl + 1 < mc := by
        intro q
        by_cases w : pl + 1 < mc
        · exact w
        · unfold sg at hb; rw [if_neg w] at hb; omega
      by_cases y1 : b = 40 ∨ b = 41
      · rw [if_pos y1, if_neg (by decide)] at sb
        rcases y1 with y | y
        · have e : hdA (pl + 1) b c k (a - 97) 0 = [1, pl + 1 + 1, 0, a - 97, 0] := by unfold hdA; rw [if_pos y]
          rw [fa_step hlt (hr.trans e), if_neg (by decide), s3, sb]
          exact IH _ _ _ _ (by omega) (by have := hlt2 (by omega); omega)
        · have e : hdA (pl + 1) b c k (a - 97) 0 = [1, pl + 1 + 1, 1, a - 97, 0] := by unfold hdA; rw [if_neg (by omega), if_pos y]
          rw [fa_step hlt (hr.trans e), if_neg (by decide), s3, sb]
          exact IH _ _ _ _ (by omega) (by have := hlt2 (by omega); omega)
      rw [if_neg y1] at sb
      by_cases y2 : b = 60 ∨ b = 62
      · rw [if_pos y2, if_neg (by decide)] at sb
        have q := fs_last (dv := dv) (mc := mc) (k := pl + 1 + 1) (st := 2) (P := 1 ≤ c - 48 ∧ c - 48 ≤ 9) (by have := hlt2 (by omega); omega) (by decide) (by decide) (fun z => by rw [hc, stF_2, if_pos (by omega)]) (fun z => by rw [hc, stF_2, if_neg (by omega)])
        by_cases x : 1 ≤ c - 48 ∧ c - 48 ≤ 9
        · have q1 := q.1 x
          rcases y2 with y | y
          · have e : hdA (pl + 1) b c k (a - 97) 0 = [1, pl + 1 + 1 + 1, 2, a - 97, c - 48] := by unfold hdA; rw [if_neg (by omega), if_neg (by omega), if_pos y, if_pos x]
            rw [fa_step hlt (hr.trans e), if_neg (by decide), s3, sb, q1.2]
            exact IH _ _ _ _ (by omega) (by omega)
          · have e : hdA (pl + 1) b c k (a - 97) 0 = [1, pl + 1 + 1 + 1, 3, a - 97, c - 48] := by unfold hdA; rw [if_neg (by omega), if_neg (by omega), if_neg (by omega), if_pos y, if_pos x]
            rw [fa_step hlt (hr.trans e), if_neg (by decide), s3, sb, q1.2]
            exact IH _ _ _ _ (by omega) (by omega)
        · rcases y2 with y | y
          · have e : hdA (pl + 1) b c k (a - 97) 0 = [0, pl + 1 + 1, 2, a - 97, 0] := by unfold hdA; rw [if_neg (by omega), if_neg (by omega), if_pos y, if_neg x]
            rw [fa_step hlt (hr.trans e), if_pos rfl, s3, sb, q.2 x]
          · have e : hdA (pl + 1) b c k (a - 97) 0 = [0, pl + 1 + 1, 3, a - 97, 0] := by unfold hdA; rw [if_neg (by omega), if_neg (by omega), if_neg (by omega), if_pos y, if_neg x]
            rw [fa_step hlt (hr.trans e), if_pos rfl, s3, sb, q.2 x]
      · rw [if_neg y2, if_pos (by decide)] at sb
        have e : hdA (pl + 1) b c k (a - 97) 0 = [0, pl + 1, k, a - 97, 0] := by unfold hdA; rw [if_neg (by omega), if_neg (by omega), if_neg (by omega), if_neg (by omega)]
        rw [fa_step hlt (hr.trans e), if_pos rfl, s3, sb]
    · have e : rdA pl a b c k = [0, pl, k, -6, 0] := by unfold rdA; rw [if_neg z1, if_neg z2, if_neg z3, if_neg z4, if_neg z5, if_neg z6]
      have hA2 : stF 0 a = -6 := by rw [hA, if_neg (by omega), if_neg z2, if_neg z3, if_neg z4, if_neg z5, if_neg z1]
      rw [fa_step hlt (hr.trans e), if_pos rfl, fs_next (by omega), ha, hA2, if_pos (by decide)]
theorem stF_bd {st s : Int} : -6 ≤ stF st s ∧ stF st s ≤ 7 := by
  unfold stF
  by_cases z0 : st = 0
  · rw [if_pos z0]; (repeat' split) <;> omega
  rw [if_neg z0]
  by_cases z1 : st = 1
  · rw [if_pos z1]; (repeat' split) <;> omega
  rw [if_neg z1]
  by_cases z2 : st = 2
  · rw [if_pos z2]; (repeat' split) <;> omega
  rw [if_neg z2]
  by_cases z3 : st = 3
  · rw [if_pos z3]; (repeat' split) <;> omega
  rw [if_neg z3]
  by_cases z4 : st = 4
  · rw [if_pos z4]; (repeat' split) <;> omega
  rw [if_neg z4]
  by_cases z5 : st = 5
  · rw [if_pos z5]; (repeat' split) <;> omega
  rw [if_neg z5]
  by_cases z6 : st = 6
  · rw [if_pos z6]; (repeat' split) <;> omega
  rw [if_neg z6]
  (repeat' split) <;> omega
theorem lp_M_faultOf {p : Int} (hO : h[40]? = some (mob mn mc sm om ga mr ma ax)) (hD : h[44]? = some (.inr (0, dv))) (hp0 : PdOK dv mc p) : ∀ (f : Nat) (k st : Int), 0 ≤ k → k + f = mc → 0 ≤ st → st ≤ 7 → Rn xs m_M_faultOf 4 [vR 40, vI st, vI k] [] h (some (vI (fsA dv mc f k st))) h := by
  obtain ⟨a1, a2, a3, a4, a5⟩ := id hp0
  intro f
  induction f with
  | zero =>
    intro k st k0 k1 s0 s1
    refine r_iload_n cd_M_faultOf_4 rfl ?_
    refine r_aload_n cd_M_faultOf_5 rfl ?_
    refine r_getfield cd_M_faultOf_6 hO rfl ?_
    refine r_icmp_ge cd_M_faultOf_9 ⟨by omega, by omega⟩ ⟨by omega, by omega⟩ (fun c_9 => ?_) (fun c_9 => ?_)
    · skip
      refine r_iload_n cd_M_faultOf_35 rfl ?_
      refine r_if_ne cd_M_faultOf_36 ⟨by omega, by omega⟩ (fun c_36 => ?_) (fun c_36 => ?_)
      · skip
        refine r_aload_n cd_M_faultOf_44 rfl ?_
        refine r_getfield cd_M_faultOf_45 hO rfl ?_
        exact r_iret cd_M_faultOf_48 rt_M_faultOf (by (unfold fsA; first | (rw [if_pos c_36]; done) | (rw [if_neg c_36]; done))) (by rfl)
      · skip
        refine r_bipush cd_M_faultOf_39 ?_
        refine r_goto cd_M_faultOf_41 ?_
        exact r_iret cd_M_faultOf_48 rt_M_faultOf (by (unfold fsA; first | (rw [if_pos c_36]; done) | (rw [if_neg c_36]; done))) (by rfl)
    · skip
      omega
  | succ f ih =>
    intro k st k0 k1 s0 s1
    have hsb := stF_bd (st := st) (s := at_ dv k)
    have hsg := a5 k k0 (by omega)
    refine r_iload_n cd_M_faultOf_4 rfl ?_
    refine r_aload_n cd_M_faultOf_5 rfl ?_
    refine r_getfield cd_M_faultOf_6 hO rfl ?_
    refine r_icmp_ge cd_M_faultOf_9 ⟨by omega, by omega⟩ ⟨by omega, by omega⟩ (fun c_9 => ?_) (fun c_9 => ?_)
    · skip
      omega
    · skip
      refine r_iload_n cd_M_faultOf_12 rfl ?_
      refine r_aload_n cd_M_faultOf_13 rfl ?_
      refine r_getfield cd_M_faultOf_14 hO rfl ?_
      refine r_iload_n cd_M_faultOf_17 rfl ?_
      refine r_iaload (N := 60) cd_M_faultOf_18 hD (by rw [hp0.1]; rfl) (by omega) (by omega) (by omega) ?_
      refine r_cv2 cd_M_faultOf_19 rfl ck_M_faultOf_M_step rfl (Nat.le_of_ble_eq_true rfl) (sp_M_step s0 s1 (by omega) (by omega)) ?_
      refine r_istoren3_1 cd_M_faultOf_22 rfl ?_
      refine r_iload_n cd_M_faultOf_23 rfl ?_
      refine r_if_ge cd_M_faultOf_24 ⟨by omega, by omega⟩ (fun c_24 => ?_) (fun c_24 => ?_)
      · skip
        refine r_iinc3_2 cd_M_faultOf_29 rfl ?_
        refine r_goto cd_M_faultOf_32 ?_
        (have e9 := ih (k + 1) (stF st (at_ dv k)) (by omega) (by omega) (by omega) (by omega); unfold fsA; rw [if_neg (by omega)]; exact e9)
      · skip
        refine r_iload_n cd_M_faultOf_27 rfl ?_
        exact r_iret cd_M_faultOf_28 rt_M_faultOf (by (unfold fsA; rw [if_pos c_24])) (by rfl)
theorem sp_M_faultOf {p : Int} (hO : h[40]? = some (mob mn mc sm om ga mr ma ax)) (hD : h[44]? = some (.inr (0, dv))) (hp0 : PdOK dv mc p) (k r n : Int) : Sp xs m_M_faultOf [vR 40] h (some (vI (at_ (fa0 dv mc k r n) 0))) h := by
  obtain ⟨a1, a2, a3, a4, a5⟩ := id hp0
  have e9 := lp_M_faultOf (xs := xs) hO hD hp0 mc.toNat 0 0 (by omega) (by omega) (by omega) (by omega)
  have e8 := fs_fa (dv := dv) (mc := mc) 60 0 k r n (by omega) a2 (by omega)
  unfold fs at e8
  rw [show (mc - 0).toNat = mc.toNat by omega] at e8
  rw [e8] at e9
  refine en_M_faultOf ?_
  refine r_iconst cd_M_faultOf_0 ?_
  refine r_istoren3_1 cd_M_faultOf_1 rfl ?_
  refine r_iconst cd_M_faultOf_2 ?_
  refine r_istoren3_2 cd_M_faultOf_3 rfl ?_
  exact e9
theorem sp_M_fault {p : Int} (hO : h[40]? = some (mob mn mc sm om ga mr ma ax)) (hD : h[44]? = some (.inr (0, dv))) (hp0 : PdOK dv mc p) (k r n : Int) : Sp xs m_M_fault [vR 40] h (some (vI (at_ (fa0 dv mc k r n) 0))) h := by
  refine en_M_fault ?_
  refine r_aload_n cd_M_fault_0 rfl ?_
  refine r_vv0 cd_M_fault_1 rfl ck_M_fault_M_faultOf (Nat.le_of_ble_eq_true rfl) hO rfl (sp_M_faultOf hO hD hp0 k r n) ?_
  exact r_iret cd_M_fault_4 rt_M_fault (by first | rfl | omega | (split <;> first | rfl | omega)) (by rfl)
end C67
