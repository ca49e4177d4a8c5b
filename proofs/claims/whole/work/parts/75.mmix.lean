-- the reference: mix
section C75
variable {xs : List Int} {h : MH}
theorem lcm_iff {x : Int} : 0 ≤ lcm x 0 ↔ 0 ≤ x := by
  unfold lcm
  by_cases h1 : 0 < x
  · rw [if_pos h1]; omega
  · rw [if_neg h1]
    by_cases h2 : x = 0
    · rw [if_pos h2]; omega
    · rw [if_neg h2]; omega
theorem lp_lowestZ {u0 l0 u l p : Int} {H' : MH} {r : Option MV} : ∀ (N : Nat) (a b : Nat) (x13 x14 : MV), b < N → a ≤ 9000000000000000000 → b ≤ 9000000000000000000 → (∀ (y z : MV) (b' : Int), Rn xs m_M_lowest 61 [vL u0, vU, vL l0, vU, vI p, vL u, vU, vL l, vU, vL ((Nat.gcd a b : Nat) : Int), vU, vL b', vU, y, z] [] h r H') → Rn xs m_M_lowest 36 [vL u0, vU, vL l0, vU, vI p, vL u, vU, vL l, vU, vL (a : Int), vU, vL (b : Int), vU, x13, x14] [] h r H' := by
  intro N
  induction N with
  | zero => intro a b x13 x14 hb; omega
  | succ N ih =>
    intro a b x13 x14 hb ha hb2 kk
    have hl := lcm_bd (b : Int) 0
    by_cases z : b = 0
    · skip
      subst z
      have z2 : lcm ((0 : Nat) : Int) 0 = 0 := lcm_0.mpr rfl
      rw [Nat.gcd_zero_right] at kk
      have e9 := kk x13 x14 ((0 : Nat) : Int)
      refine r_lload cd_M_lowest_36 rfl ?_
      refine r_lconst0 cd_M_lowest_38 ?_
      refine r_lcmp cd_M_lowest_39 ⟨by omega, by omega⟩ ⟨by omega, by omega⟩ ?_
      refine r_if_eq cd_M_lowest_40 ⟨by omega, by omega⟩ (fun c_40 => ?_) (fun c_40 => ?_)
      · skip
        exact e9
      · skip
        omega
    · skip
      have z2 : lcm (b : Int) 0 ≠ 0 := fun y => z (by have := lcm_0.mp y; omega)
      have e2 : Nat.gcd a b = Nat.gcd b (a % b) := by rw [Nat.gcd_comm a b, Nat.gcd_rec, Nat.gcd_comm]
      have l1 : a % b < b := Nat.mod_lt _ (by omega)
      have e1 : (a : Int).tmod (b : Int) = ((a % b : Nat) : Int) := by rw [Int.tmod_eq_emod_of_nonneg (by omega), Int.natCast_emod]
      rw [e2] at kk
      have e9 := fun x y => ih b (a % b) x y (by omega) hb2 (by omega) kk
      rw [← e1] at e9
      refine r_lload cd_M_lowest_36 rfl ?_
      refine r_lconst0 cd_M_lowest_38 ?_
      refine r_lcmp cd_M_lowest_39 ⟨by omega, by omega⟩ ⟨by omega, by omega⟩ ?_
      refine r_if_eq cd_M_lowest_40 ⟨by omega, by omega⟩ (fun c_40 => ?_) (fun c_40 => ?_)
      · skip
        omega
      · skip
        refine r_lload cd_M_lowest_43 rfl ?_
        refine r_lload cd_M_lowest_45 rfl ?_
        refine r_lrem cd_M_lowest_47 ⟨by omega, by omega⟩ ⟨by omega, by omega⟩ (by omega) ?_
        refine r_lstore15_13 cd_M_lowest_48 rfl ?_
        refine r_lload cd_M_lowest_50 rfl ?_
        refine r_lstore15_9 cd_M_lowest_52 rfl ?_
        refine r_lload cd_M_lowest_54 rfl ?_
        refine r_lstore15_11 cd_M_lowest_56 rfl ?_
        refine r_goto cd_M_lowest_58 ?_
        exact e9 _ _
theorem sp_lowestZ {u l p : Int} (u1 : zabs u ≤ 9000000000000000000) (l0 : l ≠ 0) (l1 : zabs l ≤ 9000000000000000000) (p0 : p = 0 ∨ p = 1) : Sp xs m_M_lowest [vL u, vL l, vI p] h (some (vL (prt (zabs u) (zabs l) p))) h := by
  have hu0 : 0 ≤ zabs u := by unfold zabs; split <;> omega
  have hl0 : 0 < zabs l := by unfold zabs; split <;> omega
  have hub : -9000000000000000000 ≤ u ∧ u ≤ 9000000000000000000 := by unfold zabs at u1; split at u1 <;> omega
  have hlb : -9000000000000000000 ≤ l ∧ l ≤ 9000000000000000000 := by unfold zabs at l1; split at l1 <;> omega
  have eu : (u < 0 → -u = zabs u) ∧ (0 ≤ u → u = zabs u) := by unfold zabs; constructor <;> intro z; (rw [if_pos z]); (rw [if_neg (by omega)])
  have el : (l < 0 → -l = zabs l) ∧ (0 ≤ l → l = zabs l) := by unfold zabs; constructor <;> intro z; (rw [if_pos z]); (rw [if_neg (by omega)])
  have e0 := prt_gcd (p := p) hu0 u1 hl0
  generalize zabs u = A at *
  generalize zabs l = B at *
  obtain ⟨U, rfl⟩ := Int.eq_ofNat_of_zero_le hu0
  obtain ⟨L, rfl⟩ := Int.eq_ofNat_of_zero_le (Int.le_of_lt hl0)
  rw [show ((U : Int)).toNat = U by omega, show ((L : Int)).toNat = L by omega] at e0
  have hg : 0 < Nat.gcd U L := Nat.gcd_pos_of_pos_right _ (by omega)
  have hg2 : Nat.gcd U L ≤ L := Nat.gcd_le_right _ (by omega)
  have e1 : (U : Int).tdiv ((Nat.gcd U L : Nat) : Int) = (U : Int) / ((Nat.gcd U L : Nat) : Int) := Int.tdiv_eq_ediv_of_nonneg (by omega)
  have e2 : (L : Int).tdiv ((Nat.gcd U L : Nat) : Int) = (L : Int) / ((Nat.gcd U L : Nat) : Int) := Int.tdiv_eq_ediv_of_nonneg (by omega)
  have b1 := lcm_bd u 0
  have b2 := lcm_bd l 0
  have g1 := lcm_iff (x := u)
  have g2 := lcm_iff (x := l)
  have kk : ∀ (y z : MV) (b' : Int), Rn xs m_M_lowest 61 [vL u, vU, vL l, vU, vI p, vL (U : Int), vU, vL (L : Int), vU, vL ((Nat.gcd U L : Nat) : Int), vU, vL b', vU, y, z] [] h (some (vL (prt U L p))) h := by
    intro y z b'
    rw [e0]
    refine r_iload cd_M_lowest_61 rfl ?_
    refine r_if_ne cd_M_lowest_63 ⟨by omega, by omega⟩ (fun c_63 => ?_) (fun c_63 => ?_)
    · skip
      refine r_lload cd_M_lowest_74 rfl ?_
      refine r_lload cd_M_lowest_76 rfl ?_
      refine r_ldiv cd_M_lowest_78 ⟨by omega, by omega⟩ ⟨by omega, by omega⟩ (by omega) ?_
      exact r_lret cd_M_lowest_79 rt_M_lowest (by first | (rw [if_pos c_63, e1]; done) | (rw [if_neg c_63, e2]; done)) (by rfl)
    · skip
      refine r_lload cd_M_lowest_66 rfl ?_
      refine r_lload cd_M_lowest_68 rfl ?_
      refine r_ldiv cd_M_lowest_70 ⟨by omega, by omega⟩ ⟨by omega, by omega⟩ (by omega) ?_
      refine r_goto cd_M_lowest_71 ?_
      exact r_lret cd_M_lowest_79 rt_M_lowest (by first | (rw [if_pos c_63, e1]; done) | (rw [if_neg c_63, e2]; done)) (by rfl)
  have t26 : ∀ x, x = (L : Int) → Rn xs m_M_lowest 26 [vL u, vU, vL l, vU, vI p, vL (U : Int), vU, vU, vU, vU, vU, vU, vU, vU, vU] [vL x] h (some (vL (prt U L p))) h := by
    intro x hx
    subst hx
    refine r_lstore15_7 cd_M_lowest_26 rfl ?_
    refine r_lload cd_M_lowest_28 rfl ?_
    refine r_lstore15_9 cd_M_lowest_30 rfl ?_
    refine r_lload cd_M_lowest_32 rfl ?_
    refine r_lstore15_11 cd_M_lowest_34 rfl ?_
    exact lp_lowestZ (L + 1) U L vU vU (by omega) (by omega) (by omega) kk
  have t12 : ∀ x, x = (U : Int) → Rn xs m_M_lowest 12 [vL u, vU, vL l, vU, vI p, vU, vU, vU, vU, vU, vU, vU, vU, vU, vU] [vL x] h (some (vL (prt U L p))) h := by
    intro x hx
    subst hx
    refine r_lstore15_5 cd_M_lowest_12 rfl ?_
    refine r_lload_n cd_M_lowest_14 rfl ?_
    refine r_lconst0 cd_M_lowest_15 ?_
    refine r_lcmp cd_M_lowest_16 ⟨by omega, by omega⟩ ⟨by omega, by omega⟩ ?_
    refine r_if_ge cd_M_lowest_17 ⟨by omega, by omega⟩ (fun c_17 => ?_) (fun c_17 => ?_)
    · skip
      refine r_lload_n cd_M_lowest_25 rfl ?_
      first | exact t26 _ (el.1 (by omega)) | exact t26 _ (el.2 (by omega))
    · skip
      refine r_lload_n cd_M_lowest_20 rfl ?_
      refine r_lneg cd_M_lowest_21 ?_
      refine r_goto cd_M_lowest_22 ?_
      first | exact t26 _ (el.1 (by omega)) | exact t26 _ (el.2 (by omega))
  refine en_M_lowest ?_
  refine r_lload_n cd_M_lowest_0 rfl ?_
  refine r_lconst0 cd_M_lowest_1 ?_
  refine r_lcmp cd_M_lowest_2 ⟨by omega, by omega⟩ ⟨by omega, by omega⟩ ?_
  refine r_if_ge cd_M_lowest_3 ⟨by omega, by omega⟩ (fun c_3 => ?_) (fun c_3 => ?_)
  · skip
    refine r_lload_n cd_M_lowest_11 rfl ?_
    first | exact t12 _ (eu.1 (by omega)) | exact t12 _ (eu.2 (by omega))
  · skip
    refine r_lload_n cd_M_lowest_6 rfl ?_
    refine r_lneg cd_M_lowest_7 ?_
    refine r_goto cd_M_lowest_8 ?_
    first | exact t12 _ (eu.1 (by omega)) | exact t12 _ (eu.2 (by omega))
-- the two tables of chances come to the same
def sdl (a b c d : Int) : Bool := decide (max (min a b) (min c d) = min (max a c) (max b d))
def mixK (a b c d : Int) : Bool := if sdl a b c d then (if a - b - c + d < 0 then !nbB b a d c else !nbB a b c d) else decide (a - b - c + d ≠ 0) && (if a - b - c + d < 0 then nbB b a d c && decide (b * c - a * d = zabs (a * d - b * c)) && decide (c - d = zabs (d - c)) else nbB a b c d && decide (a * d - b * c = zabs (a * d - b * c)) && decide (d - c = zabs (d - c)))
theorem mix_k0 : ∀ a : Nat, a < 11 → ∀ b : Nat, b < 11 → ∀ c : Nat, c < 11 → ∀ d : Nat, d < 11 → mixK a b c d = true := by decide +kernel
theorem mix_k {a b c d : Int} (a0 : 0 ≤ a ∧ a ≤ 10) (b0 : 0 ≤ b ∧ b ≤ 10) (c0 : 0 ≤ c ∧ c ≤ 10) (d0 : 0 ≤ d ∧ d ≤ 10) : mixK a b c d = true := by
  have e := mix_k0 a.toNat (by omega) b.toNat (by omega) c.toNat (by omega) d.toNat (by omega)
  rw [show ((a.toNat : Nat) : Int) = a by omega, show ((b.toNat : Nat) : Int) = b by omega, show ((c.toNat : Nat) : Int) = c by omega, show ((d.toNat : Nat) : Int) = d by omega] at e
  exact e
theorem sdl_iff {a b c d : Int} : sdl a b c d = true ↔ max (min a b) (min c d) = min (max a c) (max b d) := by unfold sdl; exact decide_eq_true_iff
theorem mix_sad {a b c d what p : Int} (a0 : 0 ≤ a ∧ a ≤ 10) (b0 : 0 ≤ b ∧ b ≤ 10) (c0 : 0 ≤ c ∧ c ≤ 10) (d0 : 0 ≤ d ∧ d ≤ 10) (hs : max (min a b) (min c d) = min (max a c) (max b d)) : mxd a b c d what p = if what = 0 then prt (max (min a b) (min c d)) 10 p else prt (if min c d ≤ min a b then 1 else 0) 1 p := by
  have e := mix_k a0 b0 c0 d0
  unfold mixK at e
  rw [sdl_iff.mpr hs, if_pos rfl] at e
  unfold mxd mxo
  by_cases z : a - b - c + d < 0
  · rw [if_pos z] at e ⊢
    have e2 : ¬ nbB b a d c = true := by simpa using e
    rw [if_neg e2, if_neg e2, show min b a = min a b by omega, show min d c = min c d by omega]
  · rw [if_neg z] at e ⊢
    have e2 : ¬ nbB a b c d = true := by simpa using e
    rw [if_neg e2, if_neg e2]
theorem mix_non {a b c d what p : Int} (a0 : 0 ≤ a ∧ a ≤ 10) (b0 : 0 ≤ b ∧ b ≤ 10) (c0 : 0 ≤ c ∧ c ≤ 10) (d0 : 0 ≤ d ∧ d ≤ 10) (hs : max (min a b) (min c d) ≠ min (max a c) (max b d)) : a - b - c + d ≠ 0 ∧ mxd a b c d what p = if what = 0 then prt (zabs (a * d - b * c)) (zabs (10 * (a - b - c + d))) p else prt (zabs (d - c)) (zabs (a - b - c + d)) p := by
  have e := mix_k a0 b0 c0 d0
  unfold mixK at e
  have hn : ¬ sdl a b c d = true := fun q => hs (sdl_iff.mp q)
  rw [if_neg hn, Bool.and_eq_true, decide_eq_true_iff] at e
  obtain ⟨e0, e⟩ := e
  refine ⟨e0, ?_⟩
  unfold mxd mxo
  by_cases z : a - b - c + d < 0
  · rw [if_pos z] at e ⊢
    rw [Bool.and_eq_true, Bool.and_eq_true, decide_eq_true_iff, decide_eq_true_iff] at e
    obtain ⟨⟨e1, e2⟩, e3⟩ := e
    rw [if_pos e1, if_pos e1, e2, e3, show 10 * (b - a - d + c) = zabs (10 * (a - b - c + d)) by unfold zabs; rw [if_pos (by omega)]; omega, show b - a - d + c = zabs (a - b - c + d) by unfold zabs; rw [if_pos z]; omega]
  · rw [if_neg z] at e ⊢
    rw [Bool.and_eq_true, Bool.and_eq_true, decide_eq_true_iff, decide_eq_true_iff] at e
    obtain ⟨⟨e1, e2⟩, e3⟩ := e
    have z1 : zabs (10 * (a - b - c + d)) = 10 * (a - b - c + d) := by unfold zabs; rw [if_neg (by omega)]
    have z2 : zabs (a - b - c + d) = a - b - c + d := by unfold zabs; rw [if_neg z]
    rw [if_pos e1, if_pos e1, z1, z2, ← e2, ← e3]
theorem prt_1 {u p : Int} (hu : u = 0 ∨ u = 1) (hp : p = 0 ∨ p = 1) : prt u 1 p = if p = 1 then 1 else u := by
  rcases hu with rfl | rfl <;> rcases hp with rfl | rfl <;> decide
theorem sp_M_mix {q : Nat} {a b c d w p : Int} (ha : inR a) (hb : inR b) (hc : inR c) (hd : inR d) (hw : inR w) (hp : inR p) : Sp xs m_M_mix [vR q, vI a, vI b, vI c, vI d, vI w, vI p] h (some (vL (mixR a b c d w p))) h := by
  obtain ⟨w1, w2⟩ := id hw
  obtain ⟨p1, p2⟩ := id hp
  unfold mixR
  by_cases z : ((0 ≤ a ∧ a ≤ 10) ∧ (0 ≤ b ∧ b ≤ 10) ∧ (0 ≤ c ∧ c ≤ 10) ∧ (0 ≤ d ∧ d ≤ 10) ∧ (w = 0 ∨ w = 1) ∧ (p = 0 ∨ p = 1))
  · rw [if_pos z]
    obtain ⟨za, zb, zc, zd, zw, zp⟩ := z
    have m1 := mul_bd za.1 za.2 (y := d) (by omega) zd.2
    have m2 := mul_bd zb.1 zb.2 (y := c) (by omega) zc.2
    have t : ∀ x7 x8 x9 x10 x11, x7 = min a b → x8 = min c d → x9 = max a c → x10 = max b d → x11 = max (min a b) (min c d) → Rn xs m_M_mix 133 [vR q, vI a, vI b, vI c, vI d, vI w, vI p, vI x7, vI x8, vI x9, vI x10, vI x11, vU, vU] [] h (some (vL (mxd a b c d w p))) h := by
      intro x7 x8 x9 x10 x11 h7 h8 h9 h10 h11
      subst h7; subst h8; subst h9; subst h10; subst h11
      have t149 : ∀ x, x = min (max a c) (max b d) → Rn xs m_M_mix 149 [vR q, vI a, vI b, vI c, vI d, vI w, vI p, vI (min a b), vI (min c d), vI (max a c), vI (max b d), vI (max (min a b) (min c d)), vU, vU] [vI x, vI (max (min a b) (min c d))] h (some (vL (mxd a b c d w p))) h := by
        intro x hx
        subst hx
        by_cases y : max (min a b) (min c d) = min (max a c) (max b d)
        · skip
          rw [mix_sad za zb zc zd y]
          have hpr := prt_1 (u := if min c d ≤ min a b then 1 else 0) (p := p) (by split <;> omega) zp
          refine r_icmp_ne cd_M_mix_149 ⟨by omega, by omega⟩ ⟨by omega, by omega⟩ (fun c_149 => ?_) (fun c_149 => ?_)
          · skip
            omega
          · skip
            refine r_iload cd_M_mix_152 rfl ?_
            refine r_if_ne cd_M_mix_154 ⟨by omega, by omega⟩ (fun c_154 => ?_) (fun c_154 => ?_)
            · skip
              refine r_iload cd_M_mix_171 rfl ?_
              refine r_iconst cd_M_mix_173 ?_
              refine r_icmp_ne cd_M_mix_174 ⟨by omega, by omega⟩ ⟨by decide, by decide⟩ (fun c_174 => ?_) (fun c_174 => ?_)
              · skip
                refine r_iload cd_M_mix_181 rfl ?_
                refine r_iload cd_M_mix_183 rfl ?_
                refine r_icmp_ne cd_M_mix_185 ⟨by omega, by omega⟩ ⟨by omega, by omega⟩ (fun c_185 => ?_) (fun c_185 => ?_)
                · skip
                  refine r_lconst0 cd_M_mix_192 ?_
                  exact r_lret cd_M_mix_193 rt_M_mix (by first | (rw [if_pos (by omega)]; done) | (rw [if_neg (by omega), hpr, if_pos (by omega)]; done) | (rw [if_neg (by omega), hpr, if_neg (by omega), if_pos (by omega)]; done) | (rw [if_neg (by omega), hpr, if_neg (by omega), if_neg (by omega)]; done)) (by rfl)
                · skip
                  refine r_lconst1 cd_M_mix_188 ?_
                  refine r_goto cd_M_mix_189 ?_
                  exact r_lret cd_M_mix_193 rt_M_mix (by first | (rw [if_pos (by omega)]; done) | (rw [if_neg (by omega), hpr, if_pos (by omega)]; done) | (rw [if_neg (by omega), hpr, if_neg (by omega), if_pos (by omega)]; done) | (rw [if_neg (by omega), hpr, if_neg (by omega), if_neg (by omega)]; done)) (by rfl)
              · skip
                refine r_lconst1 cd_M_mix_177 ?_
                refine r_goto cd_M_mix_178 ?_
                exact r_lret cd_M_mix_193 rt_M_mix (by first | (rw [if_pos (by omega)]; done) | (rw [if_neg (by omega), hpr, if_pos (by omega)]; done) | (rw [if_neg (by omega), hpr, if_neg (by omega), if_pos (by omega)]; done) | (rw [if_neg (by omega), hpr, if_neg (by omega), if_neg (by omega)]; done)) (by rfl)
            · skip
              refine r_iload cd_M_mix_157 rfl ?_
              refine r_i2l cd_M_mix_159 ⟨by omega, by omega⟩ ?_
              refine r_ldc2_w cd_M_mix_160 ?_
              refine r_iload cd_M_mix_163 rfl ?_
              refine r_cv3 cd_M_mix_165 rfl ck_M_mix_M_lowest rfl (Nat.le_of_ble_eq_true rfl) (sp_lowest (by omega) (by omega) (by decide) (by decide) zp) ?_
              refine r_goto cd_M_mix_168 ?_
              exact r_lret cd_M_mix_193 rt_M_mix (by first | (rw [if_pos (by omega)]; done) | (rw [if_neg (by omega), hpr, if_pos (by omega)]; done) | (rw [if_neg (by omega), hpr, if_neg (by omega), if_pos (by omega)]; done) | (rw [if_neg (by omega), hpr, if_neg (by omega), if_neg (by omega)]; done)) (by rfl)
        · skip
          obtain ⟨y0, y1⟩ := mix_non (what := w) (p := p) za zb zc zd y
          rw [y1]
          have b1 : zabs (a * d - b * c) ≤ 1000 := by unfold zabs; split <;> omega
          have b2 : zabs (10 * (a - b - c + d)) ≤ 1000 := by unfold zabs; split <;> omega
          have b3 : zabs (a - b - c + d) ≤ 1000 := by unfold zabs; split <;> omega
          have b4 : zabs (d - c) ≤ 1000 := by unfold zabs; split <;> omega
          refine r_icmp_ne cd_M_mix_149 ⟨by omega, by omega⟩ ⟨by omega, by omega⟩ (fun c_149 => ?_) (fun c_149 => ?_)
          · skip
            refine r_iload_n cd_M_mix_194 rfl ?_
            refine r_iload_n cd_M_mix_195 rfl ?_
            refine r_isub cd_M_mix_196 ?_
            refine r_iload_n cd_M_mix_197 rfl ?_
            refine r_isub cd_M_mix_198 ?_
            refine r_iload cd_M_mix_199 rfl ?_
            refine r_iadd cd_M_mix_201 ?_
            refine r_i2l cd_M_mix_202 ⟨by omega, by omega⟩ ?_
            refine r_lstore14_12 cd_M_mix_203 rfl ?_
            refine r_iload cd_M_mix_205 rfl ?_
            refine r_if_ne cd_M_mix_207 ⟨by omega, by omega⟩ (fun c_207 => ?_) (fun c_207 => ?_)
            · skip
              refine r_iload cd_M_mix_236 rfl ?_
              refine r_iload_n cd_M_mix_238 rfl ?_
              refine r_isub cd_M_mix_239 ?_
              refine r_i2l cd_M_mix_240 ⟨by omega, by omega⟩ ?_
              refine r_lload cd_M_mix_241 rfl ?_
              refine r_iload cd_M_mix_243 rfl ?_
              refine r_cv3 cd_M_mix_245 rfl ck_M_mix_M_lowest rfl (Nat.le_of_ble_eq_true rfl) (sp_lowestZ (by omega) y0 (by omega) zp) ?_
              exact r_lret cd_M_mix_248 rt_M_mix (by first | (rw [if_pos (by omega)]; done) | (rw [if_neg (by omega)]; done)) (by rfl)
            · skip
              refine r_iload_n cd_M_mix_210 rfl ?_
              refine r_i2l cd_M_mix_211 ⟨by omega, by omega⟩ ?_
              refine r_iload cd_M_mix_212 rfl ?_
              refine r_i2l cd_M_mix_214 ⟨by omega, by omega⟩ ?_
              refine r_lmul cd_M_mix_215 ?_
              refine r_iload_n cd_M_mix_216 rfl ?_
              refine r_i2l cd_M_mix_217 ⟨by omega, by omega⟩ ?_
              refine r_iload_n cd_M_mix_218 rfl ?_
              refine r_i2l cd_M_mix_219 ⟨by omega, by omega⟩ ?_
              refine r_lmul cd_M_mix_220 ?_
              refine r_lsub cd_M_mix_221 ?_
              refine r_ldc2_w cd_M_mix_222 ?_
              refine r_lload cd_M_mix_225 rfl ?_
              refine r_lmul cd_M_mix_227 ?_
              refine r_iload cd_M_mix_228 rfl ?_
              refine r_cv3 cd_M_mix_230 rfl ck_M_mix_M_lowest rfl (Nat.le_of_ble_eq_true rfl) (sp_lowestZ (by omega) (by omega) (by omega) zp) ?_
              refine r_goto cd_M_mix_233 ?_
              exact r_lret cd_M_mix_248 rt_M_mix (by first | (rw [if_pos (by omega)]; done) | (rw [if_neg (by omega)]; done)) (by rfl)
          · skip
            omega
      refine r_iload cd_M_mix_133 rfl ?_
      refine r_iload cd_M_mix_135 rfl ?_
      refine r_iload cd_M_mix_137 rfl ?_
      refine r_icmp_ge cd_M_mix_139 ⟨by omega, by omega⟩ ⟨by omega, by omega⟩ (fun c_139 => ?_) (fun c_139 => ?_)
      · skip
        refine r_iload cd_M_mix_147 rfl ?_
        exact t149 _ (by omega)
      · skip
        refine r_iload cd_M_mix_142 rfl ?_
        refine r_goto cd_M_mix_144 ?_
        exact t149 _ (by omega)
    have s131 : ∀ x7 x8 x9 x10 x11, x7 = min a b → x8 = min c d → x9 = max a c → x10 = max b d → x11 = max (min a b) (min c d) → Rn xs m_M_mix 131 [vR q, vI a, vI b, vI c, vI d, vI w, vI p, vI x7, vI x8, vI x9, vI x10, vU, vU, vU] [vI x11] h (some (vL (mxd a b c d w p))) h := by
      intro x7 x8 x9 x10 x11 h7 h8 h9 h10 h11
      refine r_istore14_11 cd_M_mix_131 rfl ?_
      exact t _ _ _ _ _ h7 h8 h9 h10 h11
    have s115 : ∀ x7 x8 x9 x10, x7 = min a b → x8 = min c d → x9 = max a c → x10 = max b d → Rn xs m_M_mix 115 [vR q, vI a, vI b, vI c, vI d, vI w, vI p, vI x7, vI x8, vI x9, vU, vU, vU, vU] [vI x10] h (some (vL (mxd a b c d w p))) h := by
      intro x7 x8 x9 x10 h7 h8 h9 h10
      refine r_istore14_10 cd_M_mix_115 rfl ?_
      refine r_iload cd_M_mix_117 rfl ?_
      refine r_iload cd_M_mix_119 rfl ?_
      refine r_icmp_le cd_M_mix_121 ⟨by omega, by omega⟩ ⟨by omega, by omega⟩ (fun c_121 => ?_) (fun c_121 => ?_)
      · skip
        refine r_iload cd_M_mix_129 rfl ?_
        exact s131 _ _ _ _ _ h7 h8 h9 h10 (by omega)
      · skip
        refine r_iload cd_M_mix_124 rfl ?_
        refine r_goto cd_M_mix_126 ?_
        exact s131 _ _ _ _ _ h7 h8 h9 h10 (by omega)
    have s101 : ∀ x7 x8 x9, x7 = min a b → x8 = min c d → x9 = max a c → Rn xs m_M_mix 101 [vR q, vI a, vI b, vI c, vI d, vI w, vI p, vI x7, vI x8, vU, vU, vU, vU, vU] [vI x9] h (some (vL (mxd a b c d w p))) h := by
      intro x7 x8 x9 h7 h8 h9
      refine r_istore14_9 cd_M_mix_101 rfl ?_
      refine r_iload_n cd_M_mix_103 rfl ?_
      refine r_iload cd_M_mix_104 rfl ?_
      refine r_icmp_le cd_M_mix_106 ⟨by omega, by omega⟩ ⟨by omega, by omega⟩ (fun c_106 => ?_) (fun c_106 => ?_)
      · skip
        refine r_iload cd_M_mix_113 rfl ?_
        exact s115 _ _ _ _ h7 h8 h9 (by omega)
      · skip
        refine r_iload_n cd_M_mix_109 rfl ?_
        refine r_goto cd_M_mix_110 ?_
        exact s115 _ _ _ _ h7 h8 h9 (by omega)
    have s89 : ∀ x7 x8, x7 = min a b → x8 = min c d → Rn xs m_M_mix 89 [vR q, vI a, vI b, vI c, vI d, vI w, vI p, vI x7, vU, vU, vU, vU, vU, vU] [vI x8] h (some (vL (mxd a b c d w p))) h := by
      intro x7 x8 h7 h8
      refine r_istore14_8 cd_M_mix_89 rfl ?_
      refine r_iload_n cd_M_mix_91 rfl ?_
      refine r_iload_n cd_M_mix_92 rfl ?_
      refine r_icmp_le cd_M_mix_93 ⟨by omega, by omega⟩ ⟨by omega, by omega⟩ (fun c_93 => ?_) (fun c_93 => ?_)
      · skip
        refine r_iload_n cd_M_mix_100 rfl ?_
        exact s101 _ _ _ h7 h8 (by omega)
      · skip
        refine r_iload_n cd_M_mix_96 rfl ?_
        refine r_goto cd_M_mix_97 ?_
        exact s101 _ _ _ h7 h8 (by omega)
    have s75 : ∀ x7, x7 = min a b → Rn xs m_M_mix 75 [vR q, vI a, vI b, vI c, vI d, vI w, vI p, vU, vU, vU, vU, vU, vU, vU] [vI x7] h (some (vL (mxd a b c d w p))) h := by
      intro x7 h7
      refine r_istore14_7 cd_M_mix_75 rfl ?_
      refine r_iload_n cd_M_mix_77 rfl ?_
      refine r_iload cd_M_mix_78 rfl ?_
      refine r_icmp_ge cd_M_mix_80 ⟨by omega, by omega⟩ ⟨by omega, by omega⟩ (fun c_80 => ?_) (fun c_80 => ?_)
      · skip
        refine r_iload cd_M_mix_87 rfl ?_
        exact s89 _ _ h7 (by omega)
      · skip
        refine r_iload_n cd_M_mix_83 rfl ?_
        refine r_goto cd_M_mix_84 ?_
        exact s89 _ _ h7 (by omega)
    refine en_M_mix ?_
    refine r_iload_n cd_M_mix_0 rfl ?_
    refine r_iconst cd_M_mix_1 ?_
    refine r_bipush cd_M_mix_2 ?_
    refine r_cv3 cd_M_mix_4 rfl ck_M_mix_M_in rfl (Nat.le_of_ble_eq_true rfl) (sp_M_in ha ⟨by decide, by decide⟩ ⟨by decide, by decide⟩) ?_
    refine r_ifeq_p cd_M_mix_7 (fun c_7 => ?_) (fun c_7 => ?_)
    · skip
      omega
    · skip
      refine r_iload_n cd_M_mix_10 rfl ?_
      refine r_iconst cd_M_mix_11 ?_
      refine r_bipush cd_M_mix_12 ?_
      refine r_cv3 cd_M_mix_14 rfl ck_M_mix_M_in rfl (Nat.le_of_ble_eq_true rfl) (sp_M_in hb ⟨by decide, by decide⟩ ⟨by decide, by decide⟩) ?_
      refine r_ifeq_p cd_M_mix_17 (fun c_17 => ?_) (fun c_17 => ?_)
      · skip
        omega
      · skip
        refine r_iload_n cd_M_mix_20 rfl ?_
        refine r_iconst cd_M_mix_21 ?_
        refine r_bipush cd_M_mix_22 ?_
        refine r_cv3 cd_M_mix_24 rfl ck_M_mix_M_in rfl (Nat.le_of_ble_eq_true rfl) (sp_M_in hc ⟨by decide, by decide⟩ ⟨by decide, by decide⟩) ?_
        refine r_ifeq_p cd_M_mix_27 (fun c_27 => ?_) (fun c_27 => ?_)
        · skip
          omega
        · skip
          refine r_iload cd_M_mix_30 rfl ?_
          refine r_iconst cd_M_mix_32 ?_
          refine r_bipush cd_M_mix_33 ?_
          refine r_cv3 cd_M_mix_35 rfl ck_M_mix_M_in rfl (Nat.le_of_ble_eq_true rfl) (sp_M_in hd ⟨by decide, by decide⟩ ⟨by decide, by decide⟩) ?_
          refine r_ifeq_p cd_M_mix_38 (fun c_38 => ?_) (fun c_38 => ?_)
          · skip
            omega
          · skip
            refine r_iload cd_M_mix_41 rfl ?_
            refine r_iconst cd_M_mix_43 ?_
            refine r_iconst cd_M_mix_44 ?_
            refine r_cv3 cd_M_mix_45 rfl ck_M_mix_M_in rfl (Nat.le_of_ble_eq_true rfl) (sp_M_in hw ⟨by decide, by decide⟩ ⟨by decide, by decide⟩) ?_
            refine r_ifeq_p cd_M_mix_48 (fun c_48 => ?_) (fun c_48 => ?_)
            · skip
              omega
            · skip
              refine r_iload cd_M_mix_51 rfl ?_
              refine r_iconst cd_M_mix_53 ?_
              refine r_iconst cd_M_mix_54 ?_
              refine r_cv3 cd_M_mix_55 rfl ck_M_mix_M_in rfl (Nat.le_of_ble_eq_true rfl) (sp_M_in hp ⟨by decide, by decide⟩ ⟨by decide, by decide⟩) ?_
              refine r_ifne_p cd_M_mix_58 (fun c_58 => ?_) (fun c_58 => ?_)
              · skip
                refine r_iload_n cd_M_mix_65 rfl ?_
                refine r_iload_n cd_M_mix_66 rfl ?_
                refine r_icmp_ge cd_M_mix_67 ⟨by omega, by omega⟩ ⟨by omega, by omega⟩ (fun c_67 => ?_) (fun c_67 => ?_)
                · skip
                  refine r_iload_n cd_M_mix_74 rfl ?_
                  exact s75 _ (by omega)
                · skip
                  refine r_iload_n cd_M_mix_70 rfl ?_
                  refine r_goto cd_M_mix_71 ?_
                  exact s75 _ (by omega)
              · skip
                omega
  · rw [if_neg z]
    refine en_M_mix ?_
    refine r_iload_n cd_M_mix_0 rfl ?_
    refine r_iconst cd_M_mix_1 ?_
    refine r_bipush cd_M_mix_2 ?_
    refine r_cv3 cd_M_mix_4 rfl ck_M_mix_M_in rfl (Nat.le_of_ble_eq_true rfl) (sp_M_in ha ⟨by decide, by decide⟩ ⟨by decide, by decide⟩) ?_
    refine r_ifeq_p cd_M_mix_7 (fun c_7 => ?_) (fun c_7 => ?_)
    · skip
      refine r_ldc2_w cd_M_mix_61 ?_
      exact r_lret cd_M_mix_64 rt_M_mix (by rfl) (by rfl)
    · skip
      refine r_iload_n cd_M_mix_10 rfl ?_
      refine r_iconst cd_M_mix_11 ?_
      refine r_bipush cd_M_mix_12 ?_
      refine r_cv3 cd_M_mix_14 rfl ck_M_mix_M_in rfl (Nat.le_of_ble_eq_true rfl) (sp_M_in hb ⟨by decide, by decide⟩ ⟨by decide, by decide⟩) ?_
      refine r_ifeq_p cd_M_mix_17 (fun c_17 => ?_) (fun c_17 => ?_)
      · skip
        refine r_ldc2_w cd_M_mix_61 ?_
        exact r_lret cd_M_mix_64 rt_M_mix (by rfl) (by rfl)
      · skip
        refine r_iload_n cd_M_mix_20 rfl ?_
        refine r_iconst cd_M_mix_21 ?_
        refine r_bipush cd_M_mix_22 ?_
        refine r_cv3 cd_M_mix_24 rfl ck_M_mix_M_in rfl (Nat.le_of_ble_eq_true rfl) (sp_M_in hc ⟨by decide, by decide⟩ ⟨by decide, by decide⟩) ?_
        refine r_ifeq_p cd_M_mix_27 (fun c_27 => ?_) (fun c_27 => ?_)
        · skip
          refine r_ldc2_w cd_M_mix_61 ?_
          exact r_lret cd_M_mix_64 rt_M_mix (by rfl) (by rfl)
        · skip
          refine r_iload cd_M_mix_30 rfl ?_
          refine r_iconst cd_M_mix_32 ?_
          refine r_bipush cd_M_mix_33 ?_
          refine r_cv3 cd_M_mix_35 rfl ck_M_mix_M_in rfl (Nat.le_of_ble_eq_true rfl) (sp_M_in hd ⟨by decide, by decide⟩ ⟨by decide, by decide⟩) ?_
          refine r_ifeq_p cd_M_mix_38 (fun c_38 => ?_) (fun c_38 => ?_)
          · skip
            refine r_ldc2_w cd_M_mix_61 ?_
            exact r_lret cd_M_mix_64 rt_M_mix (by rfl) (by rfl)
          · skip
            refine r_iload cd_M_mix_41 rfl ?_
            refine r_iconst cd_M_mix_43 ?_
            refine r_iconst cd_M_mix_44 ?_
            refine r_cv3 cd_M_mix_45 rfl ck_M_mix_M_in rfl (Nat.le_of_ble_eq_true rfl) (sp_M_in hw ⟨by decide, by decide⟩ ⟨by decide, by decide⟩) ?_
            refine r_ifeq_p cd_M_mix_48 (fun c_48 => ?_) (fun c_48 => ?_)
            · skip
              refine r_ldc2_w cd_M_mix_61 ?_
              exact r_lret cd_M_mix_64 rt_M_mix (by rfl) (by rfl)
            · skip
              refine r_iload cd_M_mix_51 rfl ?_
              refine r_iconst cd_M_mix_53 ?_
              refine r_iconst cd_M_mix_54 ?_
              refine r_cv3 cd_M_mix_55 rfl ck_M_mix_M_in rfl (Nat.le_of_ble_eq_true rfl) (sp_M_in hp ⟨by decide, by decide⟩ ⟨by decide, by decide⟩) ?_
              refine r_ifne_p cd_M_mix_58 (fun c_58 => ?_) (fun c_58 => ?_)
              · skip
                exact absurd ⟨c_7, c_17, c_27, c_38, by omega, by omega⟩ z
              · skip
                refine r_ldc2_w cd_M_mix_61 ?_
                exact r_lret cd_M_mix_64 rt_M_mix (by rfl) (by rfl)
end C75
