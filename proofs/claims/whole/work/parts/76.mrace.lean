-- the reference: race
section C76
variable {xs : List Int} {c : Nat → HC} {mn mc sm om ga mr ma ax : Int} {b v sv dv fa gr ng wy im kp : List Int}
def nrW (t : Int) (f : Nat → Int) : Nat → Int
  | 0 => 0
  | j + 1 => t * f (j + 1) + (10 - t) * nrW t f j
def wcW (t : Int) : Nat → Nat → Int
  | 0 => fun j => match j with | 0 => 0 | j + 1 => pwA 10 j 1
  | i + 1 => nrW t (wcW t i)
theorem wc_k : ∀ t : Nat, t < 11 → ∀ own : Nat, own < 11 → ∀ oth : Nat, oth < 11 → (0 < own ∧ 0 < oth ∧ own + oth < 20) → wcW t own oth = wrA own oth t oth 0 0 1 := by decide +kernel
theorem p10p : ∀ n : Nat, n < 19 → 0 < pwA 10 n 1 := by decide
def EW (xs : List Int) (pc : Nat) (ls : List MV) (c : Nat → HC) (mn mc sm om ga mr ma ax : Int) (b v sv dv fa gr ng im kp wy : List Int) (r : Option MV) : Prop := ∃ wy' : List Int, wy'.length = 121 ∧ Rn xs m_M_race pc ls [] (z40 c (rf mn mc sm om ga mr ma ax b v sv dv fa gr ng wy im kp)) r (z40 c (rf mn mc sm om ga mr ma ax b v sv dv fa gr ng wy' im kp))
def WT (t oth : Int) (l : List Int) (i j : Int) : Prop := l.length = 121 ∧ (∀ k : Int, 1 ≤ k → k ≤ 10 → at_ l (11 * k) = 0) ∧ ∀ p q : Int, 0 ≤ p → (p < i ∨ (p = i ∧ q < j)) → 1 ≤ q → q ≤ oth → at_ l (11 * p + q) = wcW t p.toNat q.toNat
theorem WT_next {t oth i j : Int} {l : List Int} (ho : oth ≤ 10) (i0 : 0 ≤ i) (h : WT t oth l i (oth + 1)) : WT t oth l (i + 1) 1 := ⟨h.1, h.2.1, fun p q p0 hp q0 q1 => h.2.2 p q p0 (by omega) q0 q1⟩
theorem WT_set {t oth i j : Int} {l : List Int} (ho : oth ≤ 10) (i0 : 1 ≤ i) (i1 : i ≤ 10) (j0 : 1 ≤ j) (j1 : j ≤ oth) (h : WT t oth l i j) : WT t oth (l.set (11 * i + j).toNat (t * at_ l (11 * (i - 1) + j) + (10 - t) * at_ l (11 * i + j - 1))) i (j + 1) := by
  obtain ⟨h1, h2, h3⟩ := h
  refine ⟨by rw [List.length_set]; exact h1, fun k k0 k1 => ?_, fun p q p0 hp q0 q1 => ?_⟩
  · rw [az_set (by omega) (by rw [h1]; omega) (by omega), if_neg (by omega)]
    exact h2 k k0 k1
  · rw [az_set (by omega) (by rw [h1]; omega) (by omega)]
    by_cases z : p = i ∧ q = j
    · obtain ⟨z1, z2⟩ := z
      subst z1; subst z2
      rw [if_pos rfl, h3 (p - 1) q (by omega) (by omega) q0 q1]
      have e1 : at_ l (11 * p + q - 1) = nrW t (wcW t (p - 1).toNat) (q - 1).toNat := by
        by_cases y : q = 1
        · subst y
          rw [show 11 * p + 1 - 1 = 11 * p by omega, h2 p i0 i1]
          rfl
        · have := h3 p (q - 1) (by omega) (by omega) (by omega) (by omega)
          rw [show p.toNat = (p - 1).toNat + 1 by omega] at this
          rw [show 11 * p + q - 1 = 11 * p + (q - 1) by omega, this]
          rfl
      rw [e1]
      have e2 : wcW t p.toNat q.toNat = nrW t (wcW t (p - 1).toNat) ((q - 1).toNat + 1) := by
        rw [show p.toNat = (p - 1).toNat + 1 by omega, show q.toNat = (q - 1).toNat + 1 by omega]
        rfl
      have e3 : nrW t (wcW t (p - 1).toNat) ((q - 1).toNat + 1) = t * wcW t (p - 1).toNat ((q - 1).toNat + 1) + (10 - t) * nrW t (wcW t (p - 1).toNat) (q - 1).toNat := rfl
      rw [e2, e3, show (q - 1).toNat + 1 = q.toNat by omega]
    · rw [if_neg (by omega)]
      exact h3 p q p0 (by omega) q0 q1
theorem lp_M_r3 {a o t p i : Int} {r : Option MV} (o0 : 0 ≤ o ∧ o ≤ 9) (i0 : 1 ≤ i) (i1 : i ≤ 10) (t0 : 0 ≤ t ∧ t ≤ 10) : ∀ (k : Nat) (j : Int) (l : List Int), 1 ≤ j → j + k = 10 - o + 1 → WT t (10 - o) l i j → (∀ l' j', WT t (10 - o) l' i (10 - o + 1) → EW xs 181 [vR 40, vI a, vI o, vI t, vI p, vI i, vI j'] c mn mc sm om ga mr ma ax b v sv dv fa gr ng im kp l' r) → EW xs 113 [vR 40, vI a, vI o, vI t, vI p, vI i, vI j] c mn mc sm om ga mr ma ax b v sv dv fa gr ng im kp l r := by
  intro k
  induction k with
  | zero =>
    intro j l j0 j1 hW e
    have : j = 10 - o + 1 := by omega
    subst this
    obtain ⟨wy', h1, h2⟩ := e l (10 - o + 1) hW
    refine ⟨wy', h1, ?_⟩
    refine r_iload cd_M_race_113 rfl ?_
    refine r_bipush cd_M_race_115 ?_
    refine r_iload_n cd_M_race_117 rfl ?_
    refine r_isub cd_M_race_118 ?_
    refine r_icmp_gt cd_M_race_119 ⟨by omega, by omega⟩ ⟨by omega, by omega⟩ (fun c_119 => ?_) (fun c_119 => ?_)
    · skip
      exact h2
    · skip
      omega
  | succ k ih =>
    intro j l j0 j1 hW e
    have hl : ((l.length : Nat) : Int) = 121 := by rw [hW.1]; rfl
    obtain ⟨wy', h1, e9⟩ := ih (j + 1) _ (by omega) (by omega) (WT_set (by omega) i0 i1 j0 (by omega) hW) e
    refine ⟨wy', h1, ?_⟩
    refine r_iload cd_M_race_113 rfl ?_
    refine r_bipush cd_M_race_115 ?_
    refine r_iload_n cd_M_race_117 rfl ?_
    refine r_isub cd_M_race_118 ?_
    refine r_icmp_gt cd_M_race_119 ⟨by omega, by omega⟩ ⟨by omega, by omega⟩ (fun c_119 => ?_) (fun c_119 => ?_)
    · skip
      omega
    · skip
      refine r_aload_n cd_M_race_122 rfl ?_
      refine r_getfield cd_M_race_123 zr_O rfl ?_
      refine r_bipush cd_M_race_126 ?_
      refine r_iload cd_M_race_128 rfl ?_
      refine r_imul cd_M_race_130 ?_
      refine r_iload cd_M_race_131 rfl ?_
      refine r_iadd cd_M_race_133 ?_
      refine r_iload_n cd_M_race_134 rfl ?_
      refine r_i2l cd_M_race_135 ⟨by omega, by omega⟩ ?_
      refine r_aload_n cd_M_race_136 rfl ?_
      refine r_getfield cd_M_race_137 zr_O rfl ?_
      refine r_bipush cd_M_race_140 ?_
      refine r_iload cd_M_race_142 rfl ?_
      refine r_iconst cd_M_race_144 ?_
      refine r_isub cd_M_race_145 ?_
      refine r_imul cd_M_race_146 ?_
      refine r_iload cd_M_race_147 rfl ?_
      refine r_iadd cd_M_race_149 ?_
      refine r_laload (N := 121) cd_M_race_150 zr_W hl (by omega) (by omega) (by omega) ?_
      refine r_lmul cd_M_race_151 ?_
      refine r_bipush cd_M_race_152 ?_
      refine r_iload_n cd_M_race_154 rfl ?_
      refine r_isub cd_M_race_155 ?_
      refine r_i2l cd_M_race_156 ⟨by omega, by omega⟩ ?_
      refine r_aload_n cd_M_race_157 rfl ?_
      refine r_getfield cd_M_race_158 zr_O rfl ?_
      refine r_bipush cd_M_race_161 ?_
      refine r_iload cd_M_race_163 rfl ?_
      refine r_imul cd_M_race_165 ?_
      refine r_iload cd_M_race_166 rfl ?_
      refine r_iadd cd_M_race_168 ?_
      refine r_iconst cd_M_race_169 ?_
      refine r_isub cd_M_race_170 ?_
      refine r_laload (N := 121) cd_M_race_171 zr_W hl (by omega) (by omega) (by omega) ?_
      refine r_lmul cd_M_race_172 ?_
      refine r_ladd cd_M_race_173 ?_
      refine r_lastore (N := 121) cd_M_race_174 zr_W hl (by omega) (by omega) (by omega) ?_
      refine r_iinc7_6 cd_M_race_175 rfl ?_
      refine r_goto cd_M_race_178 ?_
      exact e9
theorem lp_M_r2 {a o t p : Int} {r : Option MV} (a0 : 0 ≤ a ∧ a ≤ 9) (o0 : 0 ≤ o ∧ o ≤ 9) (t0 : 0 ≤ t ∧ t ≤ 10) : ∀ (k : Nat) (i : Int) (l : List Int) (x6 : MV), 1 ≤ i → i + k = 10 - a + 1 → WT t (10 - o) l i 1 → (∀ l' i' x, WT t (10 - o) l' (10 - a + 1) 1 → EW xs 187 [vR 40, vI a, vI o, vI t, vI p, vI i', x] c mn mc sm om ga mr ma ax b v sv dv fa gr ng im kp l' r) → EW xs 101 [vR 40, vI a, vI o, vI t, vI p, vI i, x6] c mn mc sm om ga mr ma ax b v sv dv fa gr ng im kp l r := by
  intro k
  induction k with
  | zero =>
    intro i l x6 i0 i1 hW e
    have : i = 10 - a + 1 := by omega
    subst this
    obtain ⟨wy', h1, h2⟩ := e l (10 - a + 1) x6 hW
    refine ⟨wy', h1, ?_⟩
    refine r_iload cd_M_race_101 rfl ?_
    refine r_bipush cd_M_race_103 ?_
    refine r_iload_n cd_M_race_105 rfl ?_
    refine r_isub cd_M_race_106 ?_
    refine r_icmp_gt cd_M_race_107 ⟨by omega, by omega⟩ ⟨by omega, by omega⟩ (fun c_107 => ?_) (fun c_107 => ?_)
    · skip
      exact h2
    · skip
      omega
  | succ k ih =>
    intro i l x6 i0 i1 hW e
    have hk : ∀ l' j', WT t (10 - o) l' i (10 - o + 1) → EW xs 181 [vR 40, vI a, vI o, vI t, vI p, vI i, vI j'] c mn mc sm om ga mr ma ax b v sv dv fa gr ng im kp l' r := by
      intro l' j' hW'
      obtain ⟨wy', h1, e8⟩ := ih (i + 1) l' (vI j') (by omega) (by omega) (WT_next (j := 1) (by omega) (by omega) hW') e
      refine ⟨wy', h1, ?_⟩
      refine r_iinc7_5 cd_M_race_181 rfl ?_
      refine r_goto cd_M_race_184 ?_
      exact e8
    obtain ⟨wy', h1, e9⟩ := lp_M_r3 (a := a) (p := p) o0 i0 (by omega) t0 (10 - o).toNat 1 l (by omega) (by omega) hW hk
    refine ⟨wy', h1, ?_⟩
    refine r_iload cd_M_race_101 rfl ?_
    refine r_bipush cd_M_race_103 ?_
    refine r_iload_n cd_M_race_105 rfl ?_
    refine r_isub cd_M_race_106 ?_
    refine r_icmp_gt cd_M_race_107 ⟨by omega, by omega⟩ ⟨by omega, by omega⟩ (fun c_107 => ?_) (fun c_107 => ?_)
    · skip
      omega
    · skip
      refine r_iconst cd_M_race_110 ?_
      refine r_istore7_6 cd_M_race_111 rfl ?_
      exact e9
theorem lp_M_r1 {a o t p : Int} {r : Option MV} (o0 : 0 ≤ o ∧ o ≤ 9) : ∀ (k : Nat) (j : Int) (l : List Int), 1 ≤ j → j + k = 11 → l.length = 121 → (∀ q : Int, 1 ≤ q → q < j → at_ l q = wcW t 0 q.toNat ∧ at_ l (11 * q) = 0) → (∀ l' j', WT t (10 - o) l' 1 1 → EW xs 98 [vR 40, vI a, vI o, vI t, vI p, vI j', vU] c mn mc sm om ga mr ma ax b v sv dv fa gr ng im kp l' r) → EW xs 57 [vR 40, vI a, vI o, vI t, vI p, vI j, vU] c mn mc sm om ga mr ma ax b v sv dv fa gr ng im kp l r := by
  intro k
  induction k with
  | zero =>
    intro j l j0 j1 hl0 hq e
    have : j = 11 := by omega
    subst this
    obtain ⟨wy', h1, h2⟩ := e l 11 ⟨hl0, fun k k0 k1 => (hq k k0 (by omega)).2, fun p q p0 hp q0 q1 => by rw [show p = 0 by omega, show 11 * (0 : Int) + q = q by omega]; exact (hq q q0 (by omega)).1⟩
    refine ⟨wy', h1, ?_⟩
    refine r_iload cd_M_race_57 rfl ?_
    refine r_bipush cd_M_race_59 ?_
    refine r_icmp_ge cd_M_race_61 ⟨by omega, by omega⟩ ⟨by decide, by decide⟩ (fun c_61 => ?_) (fun c_61 => ?_)
    · skip
      exact h2
    · skip
      omega
  | succ k ih =>
    intro j l j0 j1 hl0 hq e
    have hl : ((l.length : Nat) : Int) = 121 := by rw [hl0]; rfl
    have sP : Sp xs m_M_power [vL 10, vI (j - 1)] (z40 c (rf mn mc sm om ga mr ma ax b v sv dv fa gr ng l im kp)) (some (vL (pwA 10 (j - 1).toNat 1))) (z40 c (rf mn mc sm om ga mr ma ax b v sv dv fa gr ng l im kp)) := sp_M_power (by omega) (by omega)
    obtain ⟨wy', h1, e9⟩ := ih (j + 1) ((l.set j.toNat (pwA 10 (j - 1).toNat 1)).set (11 * j).toNat 0) (by omega) (by omega) (by rw [List.length_set, List.length_set, hl0]) (fun q q0 q1 => by
      rw [az_set (by omega) (by rw [List.length_set, hl0]; omega) (by omega), az_set (by omega) (by rw [hl0]; omega) (by omega), az_set (by omega) (by rw [List.length_set, hl0]; omega) (by omega), az_set (by omega) (by rw [hl0]; omega) (by omega)]
      by_cases y : q = j
      · subst y
        rw [if_neg (by omega), if_pos rfl, if_pos rfl]
        refine ⟨?_, rfl⟩
        rw [show q.toNat = (q - 1).toNat + 1 by omega]
        rfl
      · have := hq q q0 (by omega)
        rw [if_neg (by omega), if_neg (by omega), if_neg (by omega), if_neg (by omega)]
        exact this) e
    refine ⟨wy', h1, ?_⟩
    refine r_iload cd_M_race_57 rfl ?_
    refine r_bipush cd_M_race_59 ?_
    refine r_icmp_ge cd_M_race_61 ⟨by omega, by omega⟩ ⟨by decide, by decide⟩ (fun c_61 => ?_) (fun c_61 => ?_)
    · skip
      omega
    · skip
      refine r_aload_n cd_M_race_64 rfl ?_
      refine r_getfield cd_M_race_65 zr_O rfl ?_
      refine r_iload cd_M_race_68 rfl ?_
      refine r_ldc2_w cd_M_race_70 ?_
      refine r_iload cd_M_race_73 rfl ?_
      refine r_iconst cd_M_race_75 ?_
      refine r_isub cd_M_race_76 ?_
      refine r_cv2 cd_M_race_77 rfl ck_M_race_M_power rfl (Nat.le_of_ble_eq_true rfl) sP ?_
      skip
      refine r_lastore (N := 121) cd_M_race_80 zr_W hl (by omega) (by omega) (by omega) ?_
      refine r_aload_n cd_M_race_81 rfl ?_
      refine r_getfield cd_M_race_82 (gs_ne (by omega) zr_O) rfl ?_
      refine r_bipush cd_M_race_85 ?_
      refine r_iload cd_M_race_87 rfl ?_
      refine r_imul cd_M_race_89 ?_
      refine r_lconst0 cd_M_race_90 ?_
      refine r_lastore (N := 121) cd_M_race_91 (gs_eq zr_W) (lset hl) (by omega) (by omega) (by omega) ?_
      refine r_iinc7_5 cd_M_race_92 rfl ?_
      refine r_goto cd_M_race_95 ?_
      exact e9
theorem sp_M_race {a o t p : Int} (hJ : JL v fa gr ng wy) (ha : inR a) (ho : inR o) (ht : inR t) (hp : inR p) : ∃ wy', wy'.length = 121 ∧ Sp xs m_M_race [vR 40, vI a, vI o, vI t, vI p] (z40 c (rf mn mc sm om ga mr ma ax b v sv dv fa gr ng wy im kp)) (some (vL (racR a o t p))) (z40 c (rf mn mc sm om ga mr ma ax b v sv dv fa gr ng wy' im kp)) := by
  obtain ⟨a1, a2⟩ := id ha
  obtain ⟨o1, o2⟩ := id ho
  obtain ⟨p1, p2⟩ := id hp
  unfold racR
  by_cases z : (0 ≤ a ∧ a ≤ 9) ∧ (0 ≤ o ∧ o ≤ 9) ∧ (0 ≤ t ∧ t ≤ 10) ∧ (p = 0 ∨ p = 1)
  · rw [if_pos z]
    obtain ⟨za, zo, zt, zp⟩ := z
    by_cases y : a = 0 ∧ o = 0
    · refine ⟨wy, hJ.2.2.2.2, ?_⟩
      rw [if_pos y]
      refine en_M_race ?_
      refine r_iload_n cd_M_race_0 rfl ?_
      refine r_iconst cd_M_race_1 ?_
      refine r_bipush cd_M_race_2 ?_
      refine r_cv3 cd_M_race_4 rfl ck_M_race_M_in rfl (Nat.le_of_ble_eq_true rfl) (sp_M_in ha ⟨by decide, by decide⟩ ⟨by decide, by decide⟩) ?_
      refine r_ifeq_p cd_M_race_7 (fun c_7 => ?_) (fun c_7 => ?_)
      · skip
        omega
      · skip
        refine r_iload_n cd_M_race_10 rfl ?_
        refine r_iconst cd_M_race_11 ?_
        refine r_bipush cd_M_race_12 ?_
        refine r_cv3 cd_M_race_14 rfl ck_M_race_M_in rfl (Nat.le_of_ble_eq_true rfl) (sp_M_in ho ⟨by decide, by decide⟩ ⟨by decide, by decide⟩) ?_
        refine r_ifeq_p cd_M_race_17 (fun c_17 => ?_) (fun c_17 => ?_)
        · skip
          omega
        · skip
          refine r_iload_n cd_M_race_20 rfl ?_
          refine r_iconst cd_M_race_21 ?_
          refine r_bipush cd_M_race_22 ?_
          refine r_cv3 cd_M_race_24 rfl ck_M_race_M_in rfl (Nat.le_of_ble_eq_true rfl) (sp_M_in ht ⟨by decide, by decide⟩ ⟨by decide, by decide⟩) ?_
          refine r_ifeq_p cd_M_race_27 (fun c_27 => ?_) (fun c_27 => ?_)
          · skip
            omega
          · skip
            refine r_iload cd_M_race_30 rfl ?_
            refine r_iconst cd_M_race_32 ?_
            refine r_iconst cd_M_race_33 ?_
            refine r_cv3 cd_M_race_34 rfl ck_M_race_M_in rfl (Nat.le_of_ble_eq_true rfl) (sp_M_in hp ⟨by decide, by decide⟩ ⟨by decide, by decide⟩) ?_
            refine r_ifne_p cd_M_race_37 (fun c_37 => ?_) (fun c_37 => ?_)
            · skip
              refine r_iload_n cd_M_race_44 rfl ?_
              refine r_iload_n cd_M_race_45 rfl ?_
              refine r_iadd cd_M_race_46 ?_
              refine r_if_ne cd_M_race_47 ⟨by omega, by omega⟩ (fun c_47 => ?_) (fun c_47 => ?_)
              · skip
                omega
              · skip
                refine r_ldc2_w cd_M_race_50 ?_
                exact r_lret cd_M_race_53 rt_M_race (by rfl) (by rfl)
            · skip
              omega
    · rw [if_neg y]
      have hw := wr_k (10 - a).toNat (by omega) (10 - o).toNat (by omega) t.toNat (by omega) (by omega)
      have hc := wc_k t.toNat (by omega) (10 - a).toNat (by omega) (10 - o).toNat (by omega) ⟨by omega, by omega, by omega⟩
      have hp10 := p10b (10 - a + (10 - o) - 1).toNat (by omega)
      have hpos := p10p (10 - a + (10 - o) - 1).toNat (by omega)
      rw [show ((t.toNat : Nat) : Int) = t by omega, show (((10 - a).toNat : Nat) : Int) = 10 - a by omega, show (((10 - o).toNat : Nat) : Int) = 10 - o by omega] at hw hc
      have t187 : ∀ l' i' x, WT t (10 - o) l' (10 - a + 1) 1 → EW xs 187 [vR 40, vI a, vI o, vI t, vI p, vI i', x] c mn mc sm om ga mr ma ax b v sv dv fa gr ng im kp l' (some (vL (prt (wrA (10 - a) (10 - o) t (10 - o).toNat 0 0 1) (pwA 10 (10 - a + (10 - o) - 1).toNat 1) p))) := by
        intro l' i' x hW
        refine ⟨l', hW.1, ?_⟩
        have hl : ((l'.length : Nat) : Int) = 121 := by rw [hW.1]; rfl
        have e1 := hW.2.2 (10 - a) (10 - o) (by omega) (by omega) (by omega) (by omega)
        rw [hc] at e1
        have sP : Sp xs m_M_power [vL 10, vI (19 - a - o)] (z40 c (rf mn mc sm om ga mr ma ax b v sv dv fa gr ng l' im kp)) (some (vL (pwA 10 (10 - a + (10 - o) - 1).toNat 1))) (z40 c (rf mn mc sm om ga mr ma ax b v sv dv fa gr ng l' im kp)) := by
          rw [show (10 - a + (10 - o) - 1).toNat = (19 - a - o).toNat by omega]
          exact sp_M_power (by omega) (by omega)
        have sL : Sp xs m_M_lowest [vL (wrA (10 - a) (10 - o) t (10 - o).toNat 0 0 1), vL (pwA 10 (10 - a + (10 - o) - 1).toNat 1), vI p] (z40 c (rf mn mc sm om ga mr ma ax b v sv dv fa gr ng l' im kp)) (some (vL (prt (wrA (10 - a) (10 - o) t (10 - o).toNat 0 0 1) (pwA 10 (10 - a + (10 - o) - 1).toNat 1) p))) (z40 c (rf mn mc sm om ga mr ma ax b v sv dv fa gr ng l' im kp)) := sp_lowest hw.1 hw.2 hpos (by omega) zp
        refine r_aload_n cd_M_race_187 rfl ?_
        refine r_getfield cd_M_race_188 zr_O rfl ?_
        refine r_bipush cd_M_race_191 ?_
        refine r_bipush cd_M_race_193 ?_
        refine r_iload_n cd_M_race_195 rfl ?_
        refine r_isub cd_M_race_196 ?_
        refine r_imul cd_M_race_197 ?_
        refine r_bipush cd_M_race_198 ?_
        refine r_iadd cd_M_race_200 ?_
        refine r_iload_n cd_M_race_201 rfl ?_
        refine r_isub cd_M_race_202 ?_
        refine r_laload (N := 121) cd_M_race_203 zr_W hl (by omega) (by omega) (by omega) ?_
        refine r_ldc2_w cd_M_race_204 ?_
        refine r_bipush cd_M_race_207 ?_
        refine r_iload_n cd_M_race_209 rfl ?_
        refine r_isub cd_M_race_210 ?_
        refine r_iload_n cd_M_race_211 rfl ?_
        refine r_isub cd_M_race_212 ?_
        refine r_cv2 cd_M_race_213 rfl ck_M_race_M_power rfl (Nat.le_of_ble_eq_true rfl) sP ?_
        skip
        refine r_iload cd_M_race_216 rfl ?_
        refine r_cv3 cd_M_race_218 rfl ck_M_race_M_lowest rfl (Nat.le_of_ble_eq_true rfl) (by rw [show 11 * (10 - a) + 10 - o = 11 * (10 - a) + (10 - o) by omega, e1]; exact sL) ?_
        exact r_lret cd_M_race_221 rt_M_race (by rfl) (by rfl)
      have t98 : ∀ l' j', WT t (10 - o) l' 1 1 → EW xs 98 [vR 40, vI a, vI o, vI t, vI p, vI j', vU] c mn mc sm om ga mr ma ax b v sv dv fa gr ng im kp l' (some (vL (prt (wrA (10 - a) (10 - o) t (10 - o).toNat 0 0 1) (pwA 10 (10 - a + (10 - o) - 1).toNat 1) p))) := by
        intro l' j' hW
        obtain ⟨wy', h1, e9⟩ := lp_M_r2 (x6 := vU) za zo zt (10 - a).toNat 1 l' (by omega) (by omega) hW t187
        refine ⟨wy', h1, ?_⟩
        refine r_iconst cd_M_race_98 ?_
        refine r_istore7_5 cd_M_race_99 rfl ?_
        exact e9
      obtain ⟨wy', h1, e9⟩ := lp_M_r1 (a := a) (p := p) zo 10 1 wy (by omega) (by omega) hJ.2.2.2.2 (fun q q0 q1 => by omega) t98
      refine ⟨wy', h1, ?_⟩
      refine en_M_race ?_
      refine r_iload_n cd_M_race_0 rfl ?_
      refine r_iconst cd_M_race_1 ?_
      refine r_bipush cd_M_race_2 ?_
      refine r_cv3 cd_M_race_4 rfl ck_M_race_M_in rfl (Nat.le_of_ble_eq_true rfl) (sp_M_in ha ⟨by decide, by decide⟩ ⟨by decide, by decide⟩) ?_
      refine r_ifeq_p cd_M_race_7 (fun c_7 => ?_) (fun c_7 => ?_)
      · skip
        omega
      · skip
        refine r_iload_n cd_M_race_10 rfl ?_
        refine r_iconst cd_M_race_11 ?_
        refine r_bipush cd_M_race_12 ?_
        refine r_cv3 cd_M_race_14 rfl ck_M_race_M_in rfl (Nat.le_of_ble_eq_true rfl) (sp_M_in ho ⟨by decide, by decide⟩ ⟨by decide, by decide⟩) ?_
        refine r_ifeq_p cd_M_race_17 (fun c_17 => ?_) (fun c_17 => ?_)
        · skip
          omega
        · skip
          refine r_iload_n cd_M_race_20 rfl ?_
          refine r_iconst cd_M_race_21 ?_
          refine r_bipush cd_M_race_22 ?_
          refine r_cv3 cd_M_race_24 rfl ck_M_race_M_in rfl (Nat.le_of_ble_eq_true rfl) (sp_M_in ht ⟨by decide, by decide⟩ ⟨by decide, by decide⟩) ?_
          refine r_ifeq_p cd_M_race_27 (fun c_27 => ?_) (fun c_27 => ?_)
          · skip
            omega
          · skip
            refine r_iload cd_M_race_30 rfl ?_
            refine r_iconst cd_M_race_32 ?_
            refine r_iconst cd_M_race_33 ?_
            refine r_cv3 cd_M_race_34 rfl ck_M_race_M_in rfl (Nat.le_of_ble_eq_true rfl) (sp_M_in hp ⟨by decide, by decide⟩ ⟨by decide, by decide⟩) ?_
            refine r_ifne_p cd_M_race_37 (fun c_37 => ?_) (fun c_37 => ?_)
            · skip
              refine r_iload_n cd_M_race_44 rfl ?_
              refine r_iload_n cd_M_race_45 rfl ?_
              refine r_iadd cd_M_race_46 ?_
              refine r_if_ne cd_M_race_47 ⟨by omega, by omega⟩ (fun c_47 => ?_) (fun c_47 => ?_)
              · skip
                refine r_iconst cd_M_race_54 ?_
                refine r_istore7_5 cd_M_race_55 rfl ?_
                exact e9
              · skip
                omega
            · skip
              omega
  · refine ⟨wy, hJ.2.2.2.2, ?_⟩
    rw [if_neg z]
    refine en_M_race ?_
    refine r_iload_n cd_M_race_0 rfl ?_
    refine r_iconst cd_M_race_1 ?_
    refine r_bipush cd_M_race_2 ?_
    refine r_cv3 cd_M_race_4 rfl ck_M_race_M_in rfl (Nat.le_of_ble_eq_true rfl) (sp_M_in ha ⟨by decide, by decide⟩ ⟨by decide, by decide⟩) ?_
    refine r_ifeq_p cd_M_race_7 (fun c_7 => ?_) (fun c_7 => ?_)
    · skip
      refine r_ldc2_w cd_M_race_40 ?_
      exact r_lret cd_M_race_43 rt_M_race (by rfl) (by rfl)
    · skip
      refine r_iload_n cd_M_race_10 rfl ?_
      refine r_iconst cd_M_race_11 ?_
      refine r_bipush cd_M_race_12 ?_
      refine r_cv3 cd_M_race_14 rfl ck_M_race_M_in rfl (Nat.le_of_ble_eq_true rfl) (sp_M_in ho ⟨by decide, by decide⟩ ⟨by decide, by decide⟩) ?_
      refine r_ifeq_p cd_M_race_17 (fun c_17 => ?_) (fun c_17 => ?_)
      · skip
        refine r_ldc2_w cd_M_race_40 ?_
        exact r_lret cd_M_race_43 rt_M_race (by rfl) (by rfl)
      · skip
        refine r_iload_n cd_M_race_20 rfl ?_
        refine r_iconst cd_M_race_21 ?_
        refine r_bipush cd_M_race_22 ?_
        refine r_cv3 cd_M_race_24 rfl ck_M_race_M_in rfl (Nat.le_of_ble_eq_true rfl) (sp_M_in ht ⟨by decide, by decide⟩ ⟨by decide, by decide⟩) ?_
        refine r_ifeq_p cd_M_race_27 (fun c_27 => ?_) (fun c_27 => ?_)
        · skip
          refine r_ldc2_w cd_M_race_40 ?_
          exact r_lret cd_M_race_43 rt_M_race (by rfl) (by rfl)
        · skip
          refine r_iload cd_M_race_30 rfl ?_
          refine r_iconst cd_M_race_32 ?_
          refine r_iconst cd_M_race_33 ?_
          refine r_cv3 cd_M_race_34 rfl ck_M_race_M_in rfl (Nat.le_of_ble_eq_true rfl) (sp_M_in hp ⟨by decide, by decide⟩ ⟨by decide, by decide⟩) ?_
          refine r_ifne_p cd_M_race_37 (fun c_37 => ?_) (fun c_37 => ?_)
          · skip
            exact absurd ⟨c_7, c_17, c_27, by omega⟩ z
          · skip
            refine r_ldc2_w cd_M_race_40 ?_
            exact r_lret cd_M_race_43 rt_M_race (by rfl) (by rfl)
end C76
