-- the reference: path
section C83
variable {xs : List Int} {h : MH} {c : Nat → HC} {mn mc sm om ga mr ma ax : Int} {b v sv dv fa gr ng wy im kp0 : List Int} {w : List Int}
def peQ (w : List Int) (r m to x : Int) : Prop := (r = to ∧ (x = m + 1 ∨ x = m - 1)) ∨ (r ≠ to ∧ ovr w r m to = 10 * to + x)
def peB (w : List Int) (r m to x : Int) : Bool := (decide (r = to) && (decide (x = m + 1) || decide (x = m - 1))) || (!decide (r = to) && decide (ovr w r m to = 10 * to + x))
theorem peB_iff {r m to x : Int} : peB w r m to x = true ↔ peQ w r m to x := by unfold peB peQ; simp
theorem sp_M_passes {r m to x : Int} (hO : h[40]? = some (mob mn mc sm om ga mr ma ax)) (hN : h[42]? = some (.inr (0, w))) (hw : WF w) (h0 : 0 ≤ r) (h1 : r < 8) (m0 : 0 ≤ m) (m1 : m < men r) (t0 : 0 ≤ to) (t1 : to < 8) (x0 : 0 ≤ x) (x1 : x < 5) : ∃ om', Sp xs m_M_passes [vR 40, vI r, vI m, vI to, vI x] h (some (vI (bp (peB w r m to x = true)))) (h.set 40 (mob mn mc sm om' ga mr ma ax)) := by
  have hm := men_bd h0 h1
  by_cases z : r = to
  · refine ⟨om, ?_⟩
    rw [set_same hO]
    refine en_M_passes ?_
    refine r_iload_n cd_M_passes_0 rfl ?_
    refine r_iload_n cd_M_passes_1 rfl ?_
    refine r_icmp_ne cd_M_passes_2 ⟨by omega, by omega⟩ ⟨by omega, by omega⟩ (fun c_2 => ?_) (fun c_2 => ?_)
    · skip
      exact absurd z c_2
    · skip
      refine r_iload cd_M_passes_5 rfl ?_
      refine r_iload_n cd_M_passes_7 rfl ?_
      refine r_iconst cd_M_passes_8 ?_
      refine r_iadd cd_M_passes_9 ?_
      refine r_icmp_eq cd_M_passes_10 ⟨by omega, by omega⟩ ⟨by omega, by omega⟩ (fun c_10 => ?_) (fun c_10 => ?_)
      · skip
        refine r_iconst cd_M_passes_21 ?_
        refine r_goto cd_M_passes_22 ?_
        exact r_zret cd_M_passes_26 rt_M_passes (by first | (rw [bp_t (peB_iff.mpr (Or.inl ⟨z, by omega⟩))]; done) | (rw [bp_f (fun y => by rcases peB_iff.mp y with q | q; omega; exact q.1 z)]; done)) (by rfl)
      · skip
        refine r_iload cd_M_passes_13 rfl ?_
        refine r_iload_n cd_M_passes_15 rfl ?_
        refine r_iconst cd_M_passes_16 ?_
        refine r_isub cd_M_passes_17 ?_
        refine r_icmp_ne cd_M_passes_18 ⟨by omega, by omega⟩ ⟨by omega, by omega⟩ (fun c_18 => ?_) (fun c_18 => ?_)
        · skip
          refine r_iconst cd_M_passes_25 ?_
          exact r_zret cd_M_passes_26 rt_M_passes (by first | (rw [bp_t (peB_iff.mpr (Or.inl ⟨z, by omega⟩))]; done) | (rw [bp_f (fun y => by rcases peB_iff.mp y with q | q; omega; exact q.1 z)]; done)) (by rfl)
        · skip
          refine r_iconst cd_M_passes_21 ?_
          refine r_goto cd_M_passes_22 ?_
          exact r_zret cd_M_passes_26 rt_M_passes (by first | (rw [bp_t (peB_iff.mpr (Or.inl ⟨z, by omega⟩))]; done) | (rw [bp_f (fun y => by rcases peB_iff.mp y with q | q; omega; exact q.1 z)]; done)) (by rfl)
  · obtain ⟨om', ho, hS⟩ := sp_M_overBy (xs := xs) hO hN hw h0 h1 m0 m1 t0 t1
    have hb := ovr_bd hw h0 h1 m0 m1 t0 t1
    have hb2 : ovn w r m to = -6 ∨ (0 ≤ ovn w r m to ∧ ovn w r m to < 8) := by unfold ovn; split <;> omega
    refine ⟨om', ?_⟩
    have hO2 : (h.set 40 (mob mn mc sm om' ga mr ma ax))[40]? = some (mob mn mc sm om' ga mr ma ax) := gs_eq hO
    have key : peB w r m to x = true ↔ (ovn w r m to = to ∧ om' = x) := by
      rw [peB_iff]
      unfold peQ ovn
      by_cases y : ovr w r m to = -1
      · rw [if_pos y]
        constructor
        · rintro (q | q)
          · exact absurd q.1 z
          · omega
        · intro q; omega
      · rw [if_neg y, ho y]
        constructor
        · rintro (q | q)
          · exact absurd q.1 z
          · omega
        · intro q
          exact Or.inr ⟨z, by omega⟩
    by_cases yy : ovn w r m to = to ∧ om' = x
    · rw [bp_t (key.mpr yy)]
      refine en_M_passes ?_
      refine r_iload_n cd_M_passes_0 rfl ?_
      refine r_iload_n cd_M_passes_1 rfl ?_
      refine r_icmp_ne cd_M_passes_2 ⟨by omega, by omega⟩ ⟨by omega, by omega⟩ (fun c_2 => ?_) (fun c_2 => ?_)
      · skip
        refine r_aload_n cd_M_passes_27 rfl ?_
        refine r_iload_n cd_M_passes_28 rfl ?_
        refine r_iload_n cd_M_passes_29 rfl ?_
        refine r_iload_n cd_M_passes_30 rfl ?_
        refine r_vv3 cd_M_passes_31 rfl ck_M_passes_M_overBy (Nat.le_of_ble_eq_true rfl) (by first | exact hO | exact hO2) rfl hS ?_
        refine r_iload_n cd_M_passes_34 rfl ?_
        refine r_icmp_ne cd_M_passes_35 ⟨by omega, by omega⟩ ⟨by omega, by omega⟩ (fun c_35 => ?_) (fun c_35 => ?_)
        · skip
          omega
        · skip
          refine r_aload_n cd_M_passes_38 rfl ?_
          refine r_getfield cd_M_passes_39 (by first | exact hO | exact hO2) rfl ?_
          refine r_iload cd_M_passes_42 rfl ?_
          refine r_icmp_ne cd_M_passes_44 ⟨by omega, by omega⟩ ⟨by omega, by omega⟩ (fun c_44 => ?_) (fun c_44 => ?_)
          · skip
            omega
          · skip
            refine r_iconst cd_M_passes_47 ?_
            refine r_goto cd_M_passes_48 ?_
            exact r_zretc cd_M_passes_52 rt_M_passes (by decide) (by rfl) (by rfl)
      · skip
        exact absurd c_2 z
    · rw [bp_f (fun q => yy (key.mp q))]
      refine en_M_passes ?_
      refine r_iload_n cd_M_passes_0 rfl ?_
      refine r_iload_n cd_M_passes_1 rfl ?_
      refine r_icmp_ne cd_M_passes_2 ⟨by omega, by omega⟩ ⟨by omega, by omega⟩ (fun c_2 => ?_) (fun c_2 => ?_)
      · skip
        refine r_aload_n cd_M_passes_27 rfl ?_
        refine r_iload_n cd_M_passes_28 rfl ?_
        refine r_iload_n cd_M_passes_29 rfl ?_
        refine r_iload_n cd_M_passes_30 rfl ?_
        refine r_vv3 cd_M_passes_31 rfl ck_M_passes_M_overBy (Nat.le_of_ble_eq_true rfl) (by first | exact hO | exact hO2) rfl hS ?_
        refine r_iload_n cd_M_passes_34 rfl ?_
        refine r_icmp_ne cd_M_passes_35 ⟨by omega, by omega⟩ ⟨by omega, by omega⟩ (fun c_35 => ?_) (fun c_35 => ?_)
        · skip
          refine r_iconst cd_M_passes_51 ?_
          exact r_zretc cd_M_passes_52 rt_M_passes (by decide) (by rfl) (by rfl)
        · skip
          refine r_aload_n cd_M_passes_38 rfl ?_
          refine r_getfield cd_M_passes_39 (by first | exact hO | exact hO2) rfl ?_
          refine r_iload cd_M_passes_42 rfl ?_
          refine r_icmp_ne cd_M_passes_44 ⟨by (have := ho; unfold ovn at c_35; (by_cases y : ovr w r m to = -1; (rw [if_pos y] at c_35; omega); (have := ho y; omega))), by (have := ho; unfold ovn at c_35; (by_cases y : ovr w r m to = -1; (rw [if_pos y] at c_35; omega); (have := ho y; omega)))⟩ ⟨by (have := ho; unfold ovn at c_35; (by_cases y : ovr w r m to = -1; (rw [if_pos y] at c_35; omega); (have := ho y; omega))), by (have := ho; unfold ovn at c_35; (by_cases y : ovr w r m to = -1; (rw [if_pos y] at c_35; omega); (have := ho y; omega)))⟩ (fun c_44 => ?_) (fun c_44 => ?_)
          · skip
            refine r_iconst cd_M_passes_51 ?_
            exact r_zretc cd_M_passes_52 rt_M_passes (by decide) (by rfl) (by rfl)
          · skip
            omega
      · skip
        exact absurd c_2 z
theorem ovA_or {r to p sd e : Int} : ∀ (k : Nat) (i : Int), ovA w r to p sd e k i = e ∨ sid (ovA w r to p sd e k i / 10) = 1 - sd
  | 0, i => Or.inl rfl
  | k + 1, i => by
    have ih : ovA w r to p sd e k (i + 1) = e ∨ sid (ovA w r to p sd e k (i + 1) / 10) = 1 - sd := ovA_or k (i + 1)
    unfold ovA
    split
    · exact Or.inl rfl
    · split
      · next hq =>
        have hc := cov_bd w (p := p) hq.1.1 hq.1.2.1
        have hm := men_bd hq.1.1 hq.1.2.1
        right
        rw [show (10 * (r + i * stp r to) + cov w (r + i * stp r to) p) / 10 = r + i * stp r to by omega]
        exact hq.1.2.2
      · exact ih
theorem ovr_to {r m to : Int} (hw : WF w) (h0 : 0 ≤ r) (h1 : r < 8) (t0 : 0 ≤ to) (t1 : to < 8) (hp : 0 ≤ ovr w r m to) (hs : sid (ovr w r m to / 10) = sid r) : ovr w r m to / 10 = to ∧ to ≠ r := by
  have hsd := sid_bd h0 h1
  have hn := nea_bd w (p := pos w r m) t0 t1
  have hmt := men_bd t0 t1
  unfold ovr at hp hs ⊢
  by_cases q : to = r ∨ ¬ (0 ≤ to ∧ to < 8 ∧ sid to = sid r)
  · rw [if_pos q] at hp; omega
  · rw [if_neg q] at hp hs ⊢
    by_cases u : 3 < zabs (pos w to (nea w to (pos w r m)) - pos w r m)
    · rw [if_pos u] at hp; omega
    · rw [if_neg u] at hp hs ⊢
      rcases ovA_or (w := w) (r := r) (to := to) (p := pos w r m) (sd := sid r) (e := 10 * to + nea w to (pos w r m)) 7 1 with z | z
      · rw [z]
        exact ⟨by omega, fun y => q (Or.inl y)⟩
      · omega
theorem pe_ed {r m to x : Int} (hw : WF w) (h0 : 0 ≤ r) (h1 : r < 8) (m0 : 0 ≤ m) (m1 : m < men r) (t0 : 0 ≤ to) (t1 : to < 8) (x0 : 0 ≤ x) (x1 : x < men to) : peB w r m to x = true ↔ ed w (10 * r + m) (10 * to + x) := by
  have hm := men_bd h0 h1
  have hmt := men_bd t0 t1
  rw [peB_iff]
  have e1 : (10 * r + m) / 10 = r := by omega
  have e2 : (10 * r + m) % 10 = m := by omega
  unfold peQ ed rcv
  rw [e1, e2]
  have zz : ¬ ¬ (0 ≤ m ∧ 0 ≤ r ∧ r < 8 ∧ m < men r) := fun q => q ⟨m0, h0, h1, m1⟩
  simp only [if_neg zz]
  constructor
  · rintro (⟨y1, y2⟩ | ⟨y1, y2⟩)
    · subst y1
      refine ⟨by omega, ?_⟩
      rcases y2 with y2 | y2
      · exact ⟨1, by omega, by omega, by rw [if_neg (by omega), if_neg (by omega), if_pos (by omega)]; omega⟩
      · exact ⟨0, by omega, by omega, by rw [if_neg (by omega), if_pos rfl, if_pos (by omega)]; omega⟩
    · refine ⟨by omega, to + 2, by omega, by omega, ?_⟩
      have hs : sid to = sid r := by
        unfold ovr at y2
        by_cases q : to = r ∨ ¬ (0 ≤ to ∧ to < 8 ∧ sid to = sid r)
        · rw [if_pos q] at y2; omega
        · by_cases u : sid to = sid r
          · exact u
          · exact absurd (Or.inr (fun g => u g.2.2)) q
      rw [if_pos (by omega), show to + 2 - 2 = to by omega, y2, if_pos ⟨by omega, by rw [show (10 * to + x) / 10 = to by omega]; exact hs⟩]
  · rintro ⟨_, way, y0, y1, hy⟩
    by_cases u : 2 ≤ way
    · rw [if_pos u] at hy
      by_cases q : 0 ≤ ovr w r m (way - 2) ∧ sid (ovr w r m (way - 2) / 10) = sid r
      · rw [if_pos q] at hy
        have ht : way - 2 = to ∧ r ≠ to := by
          have hl := ovr_to (m := m) hw h0 h1 (to := way - 2) (by omega) (by omega) q.1 q.2
          rw [hy] at hl
          omega
        right
        rw [← ht.1]
        exact ⟨by rw [ht.1]; exact ht.2, by rw [hy, ht.1]⟩
      · rw [if_neg q] at hy; omega
    · rw [if_neg u] at hy
      left
      by_cases v0 : way = 0
      · rw [if_pos v0] at hy
        split at hy <;> omega
      · rw [if_neg v0] at hy
        split at hy <;> omega
-- codes of five to a rod
def wh (k : Int) : Int := 10 * (k / 5) + k % 5
def mk (k : Int) : Prop := 0 ≤ k % 5 ∧ 0 ≤ k / 5 ∧ k / 5 < 8 ∧ k % 5 < men (k / 5)
def FR (l : List Int) : Prop := l.length = 40 ∧ ∀ k : Int, 0 ≤ k → k < 40 → 0 ≤ at_ l k ∧ at_ l k ≤ 1000000
def FI (Dd : Int → Int) (l : List Int) : Prop := FR l ∧ ∀ k : Int, 0 ≤ k → k < 40 → mk k → Dd (wh k) ≤ at_ l k ∧ (Dd (wh k) = 0 → at_ l k = 0)
def FX (w : List Int) (l : List Int) (k1 x1 : Int) : Prop := ∀ k x : Int, 0 ≤ k → k < 40 → 0 ≤ x → x < 40 → (k < k1 ∨ (k = k1 ∧ x < x1)) → mk k → mk x → ed w (wh k) (wh x) → at_ l k ≤ at_ l x + 1
def PD (w : List Int) (Dd : Int → Int) : Prop := (∀ a x : Int, 0 ≤ a → a < 80 → x < 80 → ed w a x → Dd a ≤ Dd x + 1) ∧ (∀ a : Int, 0 ≤ a → a < 80 → 0 ≤ Dd a ∧ Dd a ≤ 1000000) ∧ (∀ a : Int, 0 ≤ a → a < 80 → 1 ≤ Dd a → Dd a < 1000000 → ∃ x : Int, x < 80 ∧ ed w a x ∧ Dd x = Dd a - 1)
theorem wh_bd {k : Int} (h0 : 0 ≤ k) (h1 : k < 40) : 0 ≤ wh k ∧ wh k < 80 := by unfold wh; omega
theorem wh_inv {a : Int} (h : isM a) : ∃ k : Int, 0 ≤ k ∧ k < 40 ∧ mk k ∧ wh k = a := by
  unfold isM at h
  have hm := men_bd h.1 h.2.1
  refine ⟨5 * (a / 10) + a % 10, by omega, by omega, ?_, ?_⟩
  · unfold mk
    rw [show (5 * (a / 10) + a % 10) / 5 = a / 10 by omega, show (5 * (a / 10) + a % 10) % 5 = a % 10 by omega]
    exact ⟨by omega, h.1, h.2.1, h.2.2⟩
  · unfold wh; omega
theorem fx_done {Dd : Int → Int} {l : List Int} (hw : WF w) (hP : PD w Dd) (hI : FI Dd l) (hX : FX w l 40 0) : ∀ (n : Nat) (k : Int), 0 ≤ k → k < 40 → mk k → Dd (wh k) = n → at_ l k = Dd (wh k) := by
  intro n
  induction n with
  | zero =>
    intro k k0 k1 hk hn
    rw [(hI.2 k k0 k1 hk).2 (by omega)]
    omega
  | succ n ih =>
    intro k k0 k1 hk hn
    have hlo := (hI.2 k k0 k1 hk).1
    have hfr := hI.1.2 k k0 k1
    have hwb := wh_bd k0 k1
    have hb := hP.2.1 (wh k) hwb.1 hwb.2
    by_cases z : Dd (wh k) < 1000000
    · obtain ⟨x, x1, he, hx⟩ := hP.2.2 (wh k) hwb.1 hwb.2 (by omega) z
      have hM := ed_M hw he
      obtain ⟨x', xa, xb, xm, xe⟩ := wh_inv hM.2.1
      have e1 := ih x' xa xb xm (by rw [xe]; omega)
      have e2 := hX k x' k0 k1 xa xb (Or.inl k1) hk xm (by rw [xe]; exact he)
      rw [xe] at e1
      omega
    · omega
def sumZ : List Int → Int
  | [] => 0
  | a :: l => a + sumZ l
theorem sumZ_set : ∀ (l : List Int) (i : Nat) (x : Int), i < l.length → sumZ (l.set i x) = sumZ l - at_ l i + x
  | [], i, x, h => by simp at h
  | a :: l, 0, x, h => by
    show x + sumZ l = a + sumZ l - at_ (a :: l) 0 + x
    rw [at_c0]
    omega
  | a :: l, i + 1, x, h => by
    have ih := sumZ_set l i x (by simp at h; omega)
    show a + sumZ (l.set i x) = a + sumZ l - at_ (a :: l) ((i + 1 : Nat) : Int) + x
    rw [ih, show ((i + 1 : Nat) : Int) = (i : Int) + 1 by omega, at_cs (by omega)]
    omega
theorem sumZ_nn : ∀ l : List Int, (∀ a, a ∈ l → 0 ≤ a) → 0 ≤ sumZ l
  | [], _ => Int.le_refl _
  | a :: l, h => by
    have := sumZ_nn l (fun x hx => h x (List.mem_cons_of_mem _ hx))
    have := h a List.mem_cons_self
    unfold sumZ
    omega
def EP (xs : List Int) (pc : Nat) (ls : List MV) (c : Nat → HC) (mn mc sm ga mr ma ax : Int) (b v sv dv gr ng wy im kp0 : List Int) (om : Int) (fa : List Int) (r : Option MV) : Prop := ∃ (om' : Int) (fa' : List Int), fa'.length = 40 ∧ Rn xs m_M_path pc ls [] (z40 c (rf mn mc sm om ga mr ma ax b v sv dv fa gr ng wy im kp0)) r (z40 c (rf mn mc sm om' ga mr ma ax b v sv dv fa' gr ng wy im kp0))
def JX (w : List Int) (Dd : Int → Int) (l0 : List Int) (k x : Int) (l : List Int) (more : Int) : Prop := FI Dd l ∧ ((more = 0 ∧ l = l0 ∧ FX w l0 k x) ∨ (more = 1 ∧ sumZ l < sumZ l0))
theorem FI_set {Dd : Int → Int} {l : List Int} {k x : Int} (hP : PD w Dd) (hI : FI Dd l) (k0 : 0 ≤ k) (k1 : k < 40) (x0 : 0 ≤ x) (x1 : x < 40) (hk : mk k) (hx : mk x) (he : ed w (wh k) (wh x)) (hlt : at_ l x + 1 < at_ l k) : FI Dd (l.set k.toNat (at_ l x + 1)) := by
  obtain ⟨⟨f1, f2⟩, f3⟩ := hI
  have key : ∀ j : Int, 0 ≤ j → at_ (l.set k.toNat (at_ l x + 1)) j = if k = j then at_ l x + 1 else at_ l j := fun j j0 => az_set k0 (by omega) j0
  have wk := wh_bd k0 k1
  have wx := wh_bd x0 x1
  have hd := hP.1 (wh k) (wh x) wk.1 wk.2 wx.2 he
  have hx2 := (f3 x x0 x1 hx).1
  have fx := f2 x x0 x1
  have fk := f2 k k0 k1
  refine ⟨⟨by rw [List.length_set]; exact f1, fun j j0 j1 => ?_⟩, fun j j0 j1 hj => ?_⟩
  · rw [key j j0]
    split
    · omega
    · exact f2 j j0 j1
  · rw [key j j0]
    by_cases z : k = j
    · rw [if_pos z, ← z]
      have := (f3 k k0 k1 hk).2
      exact ⟨by omega, fun q => by have := this q; omega⟩
    · rw [if_neg z]
      exact f3 j j0 j1 hj
theorem lp_M_px {r m what k : Int} {rt : Option MV} {Dd : Int → Int} {l0 : List Int} (hw : WF w) (hP : PD w Dd) (k0 : 0 ≤ k) (k1 : k < 40) : ∀ (f : Nat) (x more om : Int) (l : List Int), 0 ≤ x → x + f = 40 → JX w Dd l0 k x l more → (∀ (l' : List Int) (more' x' om' : Int), JX w Dd l0 k 40 l' more' → EP xs 221 [vR 40, vI r, vI m, vI what, vI more', vI k, vI x'] c mn mc sm ga mr ma ax b w sv dv gr ng wy im kp0 om' l' rt) → EP xs 119 [vR 40, vI r, vI m, vI what, vI more, vI k, vI x] c mn mc sm ga mr ma ax b w sv dv gr ng wy im kp0 om l rt := by
  intro f
  induction f with
  | zero =>
    intro x more om l x0 x1 hJ e
    have : x = 40 := by omega
    subst this
    obtain ⟨om', fa', hh, h2⟩ := e l more 40 om hJ
    refine ⟨om', fa', hh, ?_⟩
    refine r_iload cd_M_path_119 rfl ?_
    refine r_bipush cd_M_path_121 ?_
    refine r_icmp_ge cd_M_path_123 ⟨by omega, by omega⟩ ⟨by decide, by decide⟩ (fun c_123 => ?_) (fun c_123 => ?_)
    · skip
      exact h2
    · skip
      omega
  | succ f ih =>
    intro x more om l x0 x1 hJ e
    obtain ⟨hI, hJ2⟩ := id hJ
    have hfl : ((l.length : Nat) : Int) = 40 := by rw [hI.1.1]; rfl
    have fk := hI.1.2 k k0 k1
    have fx := hI.1.2 x x0 (by omega)
    have d1 : k.tdiv 5 = k / 5 := Int.tdiv_eq_ediv_of_nonneg k0
    have d2 : k.tmod 5 = k % 5 := Int.tmod_eq_emod_of_nonneg k0
    have d3 : x.tdiv 5 = x / 5 := Int.tdiv_eq_ediv_of_nonneg x0
    have d4 : x.tmod 5 = x % 5 := Int.tmod_eq_emod_of_nonneg x0
    have step : ∀ om2 : Int, ¬ (mk k ∧ mk x ∧ at_ l x + 1 < at_ l k ∧ peB w (k / 5) (k % 5) (x / 5) (x % 5) = true) → EP xs 119 [vR 40, vI r, vI m, vI what, vI more, vI k, vI (x + 1)] c mn mc sm ga mr ma ax b w sv dv gr ng wy im kp0 om2 l rt := by
      intro om2 hno
      refine ih (x + 1) more om2 l (by omega) (by omega) ⟨hI, ?_⟩ e
      rcases hJ2 with ⟨a, b', d⟩ | ⟨a, b'⟩
      · refine Or.inl ⟨a, b', fun k' x' ka kb xa xb ho hk hx he => ?_⟩
        by_cases z : k' = k ∧ x' = x
        · obtain ⟨z1, z2⟩ := z
          subst z1; subst z2
          by_cases q : at_ l x' + 1 < at_ l k'
          · have hpe : peB w (k' / 5) (k' % 5) (x' / 5) (x' % 5) = true := (pe_ed hw hk.2.1 hk.2.2.1 hk.1 hk.2.2.2 hx.2.1 hx.2.2.1 hx.1 hx.2.2.2).mpr he
            exact absurd ⟨hk, hx, q, hpe⟩ hno
          · rw [← b']; omega
        · exact d k' x' ka kb xa xb (by omega) hk hx he
      · exact Or.inr ⟨a, b'⟩
    by_cases zk : mk k
    · by_cases zx : mk x
      · have hpx := pe_ed hw zk.2.1 zk.2.2.1 zk.1 zk.2.2.2 zx.2.1 zx.2.2.1 zx.1 zx.2.2.2
        have hmx := men_bd zx.2.1 zx.2.2.1
        by_cases zl : at_ l x + 1 < at_ l k
        · obtain ⟨om2, hS0⟩ := sp_M_passes (xs := xs) (x := x % 5) (zr_O (c := c) (mn := mn) (mc := mc) (sm := sm) (om := om) (ga := ga) (mr := mr) (ma := ma) (ax := ax) (b := b) (v := w) (sv := sv) (dv := dv) (fa := l) (gr := gr) (ng := ng) (wy := wy) (im := im) (kp := kp0)) zr_N hw zk.2.1 zk.2.2.1 zk.1 zk.2.2.2 zx.2.1 zx.2.2.1 zx.1 (by have := zx.2.2.2; omega)
          have hS : Sp xs m_M_passes [vR 40, vI (k / 5), vI (k % 5), vI (x / 5), vI (x % 5)] (z40 c (rf mn mc sm om ga mr ma ax b w sv dv l gr ng wy im kp0)) (some (vI (bp (peB w (k / 5) (k % 5) (x / 5) (x % 5) = true)))) (z40 c (rf mn mc sm om2 ga mr ma ax b w sv dv l gr ng wy im kp0)) := hS0
          by_cases zp : peB w (k / 5) (k % 5) (x / 5) (x % 5) = true
          · have hIs := FI_set hP hI k0 k1 x0 (by omega) zk zx (hpx.mp zp) zl
            have hsum := sumZ_set l k.toNat (at_ l x + 1) (by omega)
            rw [show ((k.toNat : Nat) : Int) = k by omega] at hsum
            obtain ⟨om', fa', hh, h2⟩ := ih (x + 1) 1 om2 (l.set k.toNat (at_ l x + 1)) (by omega) (by omega) ⟨hIs, Or.inr ⟨rfl, by
              rcases hJ2 with ⟨a, b', d⟩ | ⟨a, b'⟩
              · rw [← b']; omega
              · omega⟩⟩ e
            refine ⟨om', fa', hh, ?_⟩
            refine r_iload cd_M_path_119 rfl ?_
            refine r_bipush cd_M_path_121 ?_
            refine r_icmp_ge cd_M_path_123 ⟨by omega, by omega⟩ ⟨by decide, by decide⟩ (fun c_123 => ?_) (fun c_123 => ?_)
            · skip
              omega
            · skip
              refine r_iload cd_M_path_126 rfl ?_
              refine r_iconst cd_M_path_128 ?_
              refine r_idiv cd_M_path_129 ⟨by omega, by omega⟩ ⟨by decide, by decide⟩ (by decide) ?_
              refine r_iload cd_M_path_130 rfl ?_
              refine r_iconst cd_M_path_132 ?_
              refine r_irem cd_M_path_133 ⟨by omega, by omega⟩ ⟨by decide, by decide⟩ (by decide) ?_
              refine r_cv2 cd_M_path_134 rfl ck_M_path_M_isMan rfl (Nat.le_of_ble_eq_true rfl) (by rw [d1, d2]; exact sp_M_isMan ⟨by omega, by omega⟩ ⟨by omega, by omega⟩) ?_
              refine r_ifeq_p cd_M_path_137 (fun c_137 => ?_) (fun c_137 => ?_)
              · skip
                refine r_iinc7_6 cd_M_path_215 rfl ?_
                refine r_goto cd_M_path_218 ?_
                first | exact h2 | exact absurd zk c_137 | exact absurd zx c_151 | exact absurd zp c_193 | omega
              · skip
                refine r_iload cd_M_path_140 rfl ?_
                refine r_iconst cd_M_path_142 ?_
                refine r_idiv cd_M_path_143 ⟨by omega, by omega⟩ ⟨by decide, by decide⟩ (by decide) ?_
                refine r_iload cd_M_path_144 rfl ?_
                refine r_iconst cd_M_path_146 ?_
                refine r_irem cd_M_path_147 ⟨by omega, by omega⟩ ⟨by decide, by decide⟩ (by decide) ?_
                refine r_cv2 cd_M_path_148 rfl ck_M_path_M_isMan rfl (Nat.le_of_ble_eq_true rfl) (by rw [d3, d4]; exact sp_M_isMan ⟨by omega, by omega⟩ ⟨by omega, by omega⟩) ?_
                refine r_ifeq_p cd_M_path_151 (fun c_151 => ?_) (fun c_151 => ?_)
                · skip
                  refine r_iinc7_6 cd_M_path_215 rfl ?_
                  refine r_goto cd_M_path_218 ?_
                  first | exact h2 | exact absurd zk c_137 | exact absurd zx c_151 | exact absurd zp c_193 | omega
                · skip
                  refine r_aload_n cd_M_path_154 rfl ?_
                  refine r_getfield cd_M_path_155 zr_O rfl ?_
                  refine r_iload cd_M_path_158 rfl ?_
                  refine r_iaload (N := 40) cd_M_path_160 zr_F hfl (by omega) (by omega) (by omega) ?_
                  refine r_iconst cd_M_path_161 ?_
                  refine r_iadd cd_M_path_162 ?_
                  refine r_aload_n cd_M_path_163 rfl ?_
                  refine r_getfield cd_M_path_164 zr_O rfl ?_
                  refine r_iload cd_M_path_167 rfl ?_
                  refine r_iaload (N := 40) cd_M_path_169 zr_F hfl (by omega) (by omega) (by omega) ?_
                  refine r_icmp_ge cd_M_path_170 ⟨by omega, by omega⟩ ⟨by omega, by omega⟩ (fun c_170 => ?_) (fun c_170 => ?_)
                  · skip
                    refine r_iinc7_6 cd_M_path_215 rfl ?_
                    refine r_goto cd_M_path_218 ?_
                    first | exact h2 | exact absurd zk c_137 | exact absurd zx c_151 | exact absurd zp c_193 | omega
                  · skip
                    refine r_aload_n cd_M_path_173 rfl ?_
                    refine r_iload cd_M_path_174 rfl ?_
                    refine r_iconst cd_M_path_176 ?_
                    refine r_idiv cd_M_path_177 ⟨by omega, by omega⟩ ⟨by decide, by decide⟩ (by decide) ?_
                    refine r_iload cd_M_path_178 rfl ?_
                    refine r_iconst cd_M_path_180 ?_
                    refine r_irem cd_M_path_181 ⟨by omega, by omega⟩ ⟨by decide, by decide⟩ (by decide) ?_
                    refine r_iload cd_M_path_182 rfl ?_
                    refine r_iconst cd_M_path_184 ?_
                    refine r_idiv cd_M_path_185 ⟨by omega, by omega⟩ ⟨by decide, by decide⟩ (by decide) ?_
                    refine r_iload cd_M_path_186 rfl ?_
                    refine r_iconst cd_M_path_188 ?_
                    refine r_irem cd_M_path_189 ⟨by omega, by omega⟩ ⟨by decide, by decide⟩ (by decide) ?_
                    refine r_vv4 cd_M_path_190 rfl ck_M_path_M_passes (Nat.le_of_ble_eq_true rfl) zr_O rfl (by rw [d1, d2, d3, d4]; exact hS) ?_
                    skip
                    refine r_ifeq_p cd_M_path_193 (fun c_193 => ?_) (fun c_193 => ?_)
                    · skip
                      refine r_iinc7_6 cd_M_path_215 rfl ?_
                      refine r_goto cd_M_path_218 ?_
                      first | exact h2 | exact absurd zk c_137 | exact absurd zx c_151 | exact absurd zp c_193 | omega
                    · skip
                      refine r_aload_n cd_M_path_196 rfl ?_
                      refine r_getfield cd_M_path_197 zr_O rfl ?_
                      refine r_iload cd_M_path_200 rfl ?_
                      refine r_aload_n cd_M_path_202 rfl ?_
                      refine r_getfield cd_M_path_203 zr_O rfl ?_
                      refine r_iload cd_M_path_206 rfl ?_
                      refine r_iaload (N := 40) cd_M_path_208 zr_F hfl (by omega) (by omega) (by omega) ?_
                      refine r_iconst cd_M_path_209 ?_
                      refine r_iadd cd_M_path_210 ?_
                      refine r_iastore (N := 40) cd_M_path_211 zr_F hfl (by omega) (by omega) (by omega) ?_
                      refine r_iconst cd_M_path_212 ?_
                      refine r_istore7_4 cd_M_path_213 rfl ?_
                      refine r_iinc7_6 cd_M_path_215 rfl ?_
                      refine r_goto cd_M_path_218 ?_
                      first | exact h2 | exact absurd zk c_137 | exact absurd zx c_151 | exact absurd zp c_193 | omega
          · obtain ⟨om', fa', hh, h2⟩ := step om2 (fun q => zp q.2.2.2)
            refine ⟨om', fa', hh, ?_⟩
            refine r_iload cd_M_path_119 rfl ?_
            refine r_bipush cd_M_path_121 ?_
            refine r_icmp_ge cd_M_path_123 ⟨by omega, by omega⟩ ⟨by decide, by decide⟩ (fun c_123 => ?_) (fun c_123 => ?_)
            · skip
              omega
            · skip
              refine r_iload cd_M_path_126 rfl ?_
              refine r_iconst cd_M_path_128 ?_
              refine r_idiv cd_M_path_129 ⟨by omega, by omega⟩ ⟨by decide, by decide⟩ (by decide) ?_
              refine r_iload cd_M_path_130 rfl ?_
              refine r_iconst cd_M_path_132 ?_
              refine r_irem cd_M_path_133 ⟨by omega, by omega⟩ ⟨by decide, by decide⟩ (by decide) ?_
              refine r_cv2 cd_M_path_134 rfl ck_M_path_M_isMan rfl (Nat.le_of_ble_eq_true rfl) (by rw [d1, d2]; exact sp_M_isMan ⟨by omega, by omega⟩ ⟨by omega, by omega⟩) ?_
              refine r_ifeq_p cd_M_path_137 (fun c_137 => ?_) (fun c_137 => ?_)
              · skip
                refine r_iinc7_6 cd_M_path_215 rfl ?_
                refine r_goto cd_M_path_218 ?_
                first | exact h2 | exact absurd zk c_137 | exact absurd zx c_151 | omega
              · skip
                refine r_iload cd_M_path_140 rfl ?_
                refine r_iconst cd_M_path_142 ?_
                refine r_idiv cd_M_path_143 ⟨by omega, by omega⟩ ⟨by decide, by decide⟩ (by decide) ?_
                refine r_iload cd_M_path_144 rfl ?_
                refine r_iconst cd_M_path_146 ?_
                refine r_irem cd_M_path_147 ⟨by omega, by omega⟩ ⟨by decide, by decide⟩ (by decide) ?_
                refine r_cv2 cd_M_path_148 rfl ck_M_path_M_isMan rfl (Nat.le_of_ble_eq_true rfl) (by rw [d3, d4]; exact sp_M_isMan ⟨by omega, by omega⟩ ⟨by omega, by omega⟩) ?_
                refine r_ifeq_p cd_M_path_151 (fun c_151 => ?_) (fun c_151 => ?_)
                · skip
                  refine r_iinc7_6 cd_M_path_215 rfl ?_
                  refine r_goto cd_M_path_218 ?_
                  first | exact h2 | exact absurd zk c_137 | exact absurd zx c_151 | omega
                · skip
                  refine r_aload_n cd_M_path_154 rfl ?_
                  refine r_getfield cd_M_path_155 zr_O rfl ?_
                  refine r_iload cd_M_path_158 rfl ?_
                  refine r_iaload (N := 40) cd_M_path_160 zr_F hfl (by omega) (by omega) (by omega) ?_
                  refine r_iconst cd_M_path_161 ?_
                  refine r_iadd cd_M_path_162 ?_
                  refine r_aload_n cd_M_path_163 rfl ?_
                  refine r_getfield cd_M_path_164 zr_O rfl ?_
                  refine r_iload cd_M_path_167 rfl ?_
                  refine r_iaload (N := 40) cd_M_path_169 zr_F hfl (by omega) (by omega) (by omega) ?_
                  refine r_icmp_ge cd_M_path_170 ⟨by omega, by omega⟩ ⟨by omega, by omega⟩ (fun c_170 => ?_) (fun c_170 => ?_)
                  · skip
                    refine r_iinc7_6 cd_M_path_215 rfl ?_
                    refine r_goto cd_M_path_218 ?_
                    first | exact h2 | exact absurd zk c_137 | exact absurd zx c_151 | omega
                  · skip
                    refine r_aload_n cd_M_path_173 rfl ?_
                    refine r_iload cd_M_path_174 rfl ?_
                    refine r_iconst cd_M_path_176 ?_
                    refine r_idiv cd_M_path_177 ⟨by omega, by omega⟩ ⟨by decide, by decide⟩ (by decide) ?_
                    refine r_iload cd_M_path_178 rfl ?_
                    refine r_iconst cd_M_path_180 ?_
                    refine r_irem cd_M_path_181 ⟨by omega, by omega⟩ ⟨by decide, by decide⟩ (by decide) ?_
                    refine r_iload cd_M_path_182 rfl ?_
                    refine r_iconst cd_M_path_184 ?_
                    refine r_idiv cd_M_path_185 ⟨by omega, by omega⟩ ⟨by decide, by decide⟩ (by decide) ?_
                    refine r_iload cd_M_path_186 rfl ?_
                    refine r_iconst cd_M_path_188 ?_
                    refine r_irem cd_M_path_189 ⟨by omega, by omega⟩ ⟨by decide, by decide⟩ (by decide) ?_
                    refine r_vv4 cd_M_path_190 rfl ck_M_path_M_passes (Nat.le_of_ble_eq_true rfl) zr_O rfl (by rw [d1, d2, d3, d4]; exact hS) ?_
                    skip
                    refine r_ifeq_p cd_M_path_193 (fun c_193 => ?_) (fun c_193 => ?_)
                    · skip
                      refine r_iinc7_6 cd_M_path_215 rfl ?_
                      refine r_goto cd_M_path_218 ?_
                      first | exact h2 | exact absurd zk c_137 | exact absurd zx c_151 | omega
                    · skip
                      exact absurd c_193 zp
        · obtain ⟨om', fa', hh, h2⟩ := step om (fun q => zl q.2.2.1)
          refine ⟨om', fa', hh, ?_⟩
          refine r_iload cd_M_path_119 rfl ?_
          refine r_bipush cd_M_path_121 ?_
          refine r_icmp_ge cd_M_path_123 ⟨by omega, by omega⟩ ⟨by decide, by decide⟩ (fun c_123 => ?_) (fun c_123 => ?_)
          · skip
            omega
          · skip
            refine r_iload cd_M_path_126 rfl ?_
            refine r_iconst cd_M_path_128 ?_
            refine r_idiv cd_M_path_129 ⟨by omega, by omega⟩ ⟨by decide, by decide⟩ (by decide) ?_
            refine r_iload cd_M_path_130 rfl ?_
            refine r_iconst cd_M_path_132 ?_
            refine r_irem cd_M_path_133 ⟨by omega, by omega⟩ ⟨by decide, by decide⟩ (by decide) ?_
            refine r_cv2 cd_M_path_134 rfl ck_M_path_M_isMan rfl (Nat.le_of_ble_eq_true rfl) (by rw [d1, d2]; exact sp_M_isMan ⟨by omega, by omega⟩ ⟨by omega, by omega⟩) ?_
            refine r_ifeq_p cd_M_path_137 (fun c_137 => ?_) (fun c_137 => ?_)
            · skip
              refine r_iinc7_6 cd_M_path_215 rfl ?_
              refine r_goto cd_M_path_218 ?_
              exact h2
            · skip
              refine r_iload cd_M_path_140 rfl ?_
              refine r_iconst cd_M_path_142 ?_
              refine r_idiv cd_M_path_143 ⟨by omega, by omega⟩ ⟨by decide, by decide⟩ (by decide) ?_
              refine r_iload cd_M_path_144 rfl ?_
              refine r_iconst cd_M_path_146 ?_
              refine r_irem cd_M_path_147 ⟨by omega, by omega⟩ ⟨by decide, by decide⟩ (by decide) ?_
              refine r_cv2 cd_M_path_148 rfl ck_M_path_M_isMan rfl (Nat.le_of_ble_eq_true rfl) (by rw [d3, d4]; exact sp_M_isMan ⟨by omega, by omega⟩ ⟨by omega, by omega⟩) ?_
              refine r_ifeq_p cd_M_path_151 (fun c_151 => ?_) (fun c_151 => ?_)
              · skip
                refine r_iinc7_6 cd_M_path_215 rfl ?_
                refine r_goto cd_M_path_218 ?_
                exact h2
              · skip
                refine r_aload_n cd_M_path_154 rfl ?_
                refine r_getfield cd_M_path_155 zr_O rfl ?_
                refine r_iload cd_M_path_158 rfl ?_
                refine r_iaload (N := 40) cd_M_path_160 zr_F hfl (by omega) (by omega) (by omega) ?_
                refine r_iconst cd_M_path_161 ?_
                refine r_iadd cd_M_path_162 ?_
                refine r_aload_n cd_M_path_163 rfl ?_
                refine r_getfield cd_M_path_164 zr_O rfl ?_
                refine r_iload cd_M_path_167 rfl ?_
                refine r_iaload (N := 40) cd_M_path_169 zr_F hfl (by omega) (by omega) (by omega) ?_
                refine r_icmp_ge cd_M_path_170 ⟨by omega, by omega⟩ ⟨by omega, by omega⟩ (fun c_170 => ?_) (fun c_170 => ?_)
                · skip
                  refine r_iinc7_6 cd_M_path_215 rfl ?_
                  refine r_goto cd_M_path_218 ?_
                  exact h2
                · skip
                  omega
      · obtain ⟨om', fa', hh, h2⟩ := step om (fun q => zx q.2.1)
        refine ⟨om', fa', hh, ?_⟩
        refine r_iload cd_M_path_119 rfl ?_
        refine r_bipush cd_M_path_121 ?_
        refine r_icmp_ge cd_M_path_123 ⟨by omega, by omega⟩ ⟨by decide, by decide⟩ (fun c_123 => ?_) (fun c_123 => ?_)
        · skip
          omega
        · skip
          refine r_iload cd_M_path_126 rfl ?_
          refine r_iconst cd_M_path_128 ?_
          refine r_idiv cd_M_path_129 ⟨by omega, by omega⟩ ⟨by decide, by decide⟩ (by decide) ?_
          refine r_iload cd_M_path_130 rfl ?_
          refine r_iconst cd_M_path_132 ?_
          refine r_irem cd_M_path_133 ⟨by omega, by omega⟩ ⟨by decide, by decide⟩ (by decide) ?_
          refine r_cv2 cd_M_path_134 rfl ck_M_path_M_isMan rfl (Nat.le_of_ble_eq_true rfl) (by rw [d1, d2]; exact sp_M_isMan ⟨by omega, by omega⟩ ⟨by omega, by omega⟩) ?_
          refine r_ifeq_p cd_M_path_137 (fun c_137 => ?_) (fun c_137 => ?_)
          · skip
            refine r_iinc7_6 cd_M_path_215 rfl ?_
            refine r_goto cd_M_path_218 ?_
            exact h2
          · skip
            refine r_iload cd_M_path_140 rfl ?_
            refine r_iconst cd_M_path_142 ?_
            refine r_idiv cd_M_path_143 ⟨by omega, by omega⟩ ⟨by decide, by decide⟩ (by decide) ?_
            refine r_iload cd_M_path_144 rfl ?_
            refine r_iconst cd_M_path_146 ?_
            refine r_irem cd_M_path_147 ⟨by omega, by omega⟩ ⟨by decide, by decide⟩ (by decide) ?_
            refine r_cv2 cd_M_path_148 rfl ck_M_path_M_isMan rfl (Nat.le_of_ble_eq_true rfl) (by rw [d3, d4]; exact sp_M_isMan ⟨by omega, by omega⟩ ⟨by omega, by omega⟩) ?_
            refine r_ifeq_p cd_M_path_151 (fun c_151 => ?_) (fun c_151 => ?_)
            · skip
              refine r_iinc7_6 cd_M_path_215 rfl ?_
              refine r_goto cd_M_path_218 ?_
              exact h2
            · skip
              exact absurd c_151 zx
    · obtain ⟨om', fa', hh, h2⟩ := step om (fun q => zk q.1)
      refine ⟨om', fa', hh, ?_⟩
      refine r_iload cd_M_path_119 rfl ?_
      refine r_bipush cd_M_path_121 ?_
      refine r_icmp_ge cd_M_path_123 ⟨by omega, by omega⟩ ⟨by decide, by decide⟩ (fun c_123 => ?_) (fun c_123 => ?_)
      · skip
        omega
      · skip
        refine r_iload cd_M_path_126 rfl ?_
        refine r_iconst cd_M_path_128 ?_
        refine r_idiv cd_M_path_129 ⟨by omega, by omega⟩ ⟨by decide, by decide⟩ (by decide) ?_
        refine r_iload cd_M_path_130 rfl ?_
        refine r_iconst cd_M_path_132 ?_
        refine r_irem cd_M_path_133 ⟨by omega, by omega⟩ ⟨by decide, by decide⟩ (by decide) ?_
        refine r_cv2 cd_M_path_134 rfl ck_M_path_M_isMan rfl (Nat.le_of_ble_eq_true rfl) (by rw [d1, d2]; exact sp_M_isMan ⟨by omega, by omega⟩ ⟨by omega, by omega⟩) ?_
        refine r_ifeq_p cd_M_path_137 (fun c_137 => ?_) (fun c_137 => ?_)
        · skip
          refine r_iinc7_6 cd_M_path_215 rfl ?_
          refine r_goto cd_M_path_218 ?_
          exact h2
        · skip
          exact absurd c_137 zk
theorem lp_M_pk {r m what : Int} {rt : Option MV} {Dd : Int → Int} {l0 : List Int} (hw : WF w) (hP : PD w Dd) : ∀ (f : Nat) (k more om : Int) (l : List Int) (x6 : MV), 0 ≤ k → k + f = 40 → JX w Dd l0 k 0 l more → (∀ (l' : List Int) (more' k' om' : Int) (y : MV), JX w Dd l0 40 0 l' more' → EP xs 227 [vR 40, vI r, vI m, vI what, vI more', vI k', y] c mn mc sm ga mr ma ax b w sv dv gr ng wy im kp0 om' l' rt) → EP xs 109 [vR 40, vI r, vI m, vI what, vI more, vI k, x6] c mn mc sm ga mr ma ax b w sv dv gr ng wy im kp0 om l rt := by
  intro f
  induction f with
  | zero =>
    intro k more om l x6 k0 k1 hJ e
    have : k = 40 := by omega
    subst this
    obtain ⟨om', fa', hh, h2⟩ := e l more 40 om x6 hJ
    refine ⟨om', fa', hh, ?_⟩
    refine r_iload cd_M_path_109 rfl ?_
    refine r_bipush cd_M_path_111 ?_
    refine r_icmp_ge cd_M_path_113 ⟨by omega, by omega⟩ ⟨by decide, by decide⟩ (fun c_113 => ?_) (fun c_113 => ?_)
    · skip
      exact h2
    · skip
      omega
  | succ f ih =>
    intro k more om l x6 k0 k1 hJ e
    obtain ⟨om', fa', hh, h2⟩ := lp_M_px (xs := xs) (c := c) (mn := mn) (mc := mc) (sm := sm) (ga := ga) (mr := mr) (ma := ma) (ax := ax) (b := b) (sv := sv) (dv := dv) (gr := gr) (ng := ng) (wy := wy) (im := im) (kp0 := kp0) (r := r) (m := m) (what := what) (rt := rt) hw hP k0 (by omega) 40 0 more om l (by omega) (by omega) hJ (fun l' more' x' om2 hJ' => by
      obtain ⟨om', fa', hh, h2⟩ := ih (k + 1) more' om2 l' (vI x') (by omega) (by omega) ⟨hJ'.1, by
        rcases hJ'.2 with ⟨a, b', d⟩ | q
        · exact Or.inl ⟨a, b', fun k' x' ka kb xa xb ho hk hx he => d k' x' ka kb xa xb (by omega) hk hx he⟩
        · exact Or.inr q⟩ e
      refine ⟨om', fa', hh, ?_⟩
      refine r_iinc7_5 cd_M_path_221 rfl ?_
      refine r_goto cd_M_path_224 ?_
      exact h2
      )
    refine ⟨om', fa', hh, ?_⟩
    refine r_iload cd_M_path_109 rfl ?_
    refine r_bipush cd_M_path_111 ?_
    refine r_icmp_ge cd_M_path_113 ⟨by omega, by omega⟩ ⟨by decide, by decide⟩ (fun c_113 => ?_) (fun c_113 => ?_)
    · skip
      omega
    · skip
      refine r_iconst cd_M_path_116 ?_
      refine r_istore7_6 cd_M_path_117 rfl ?_
      exact h2
theorem mem_at {l : List Int} {a : Int} (h : a ∈ l) : ∃ j : Int, 0 ≤ j ∧ j < l.length ∧ at_ l j = a := by
  obtain ⟨n, hn, e⟩ := List.getElem_of_mem h
  refine ⟨n, by omega, by omega, ?_⟩
  unfold at_
  rw [show ((n : Int)).toNat = n by omega, List.getD_eq_getElem?_getD, List.getElem?_eq_getElem hn]
  exact e
theorem FR_sum {l : List Int} (h : FR l) : 0 ≤ sumZ l := sumZ_nn l (fun a ha => by
  obtain ⟨j, j0, j1, e⟩ := mem_at ha
  have := h.2 j j0 (by rw [h.1] at j1; omega)
  omega)
theorem lp_M_pw {r m what : Int} {rt : Option MV} {Dd : Int → Int} (hw : WF w) (hP : PD w Dd) : ∀ (N : Nat) (om : Int) (l : List Int) (x4 : Int) (x5 x6 : MV), sumZ l < N → FI Dd l → (∀ (l' : List Int) (om' : Int) (z4 : Int) (z5 z6 : MV), FI Dd l' → FX w l' 40 0 → EP xs 230 [vR 40, vI r, vI m, vI what, vI z4, z5, z6] c mn mc sm ga mr ma ax b w sv dv gr ng wy im kp0 om' l' rt) → EP xs 103 [vR 40, vI r, vI m, vI what, vI x4, x5, x6] c mn mc sm ga mr ma ax b w sv dv gr ng wy im kp0 om l rt := by
  intro N
  induction N with
  | zero =>
    intro om l x4 x5 x6 hs hI e
    have := FR_sum hI.1
    omega
  | succ N ih =>
    intro om l x4 x5 x6 hs hI e
    obtain ⟨om', fa', hh, h2⟩ := lp_M_pk (xs := xs) (c := c) (mn := mn) (mc := mc) (sm := sm) (ga := ga) (mr := mr) (ma := ma) (ax := ax) (b := b) (sv := sv) (dv := dv) (gr := gr) (ng := ng) (wy := wy) (im := im) (kp0 := kp0) (r := r) (m := m) (what := what) (rt := rt) (l0 := l) hw hP 40 0 0 om l x6 (by omega) (by omega) ⟨hI, Or.inl ⟨rfl, rfl, fun k' x' ka kb xa xb ho => by omega⟩⟩ (fun l' more' k' om2 y hJ' => by
      rcases hJ'.2 with ⟨a, b', d⟩ | ⟨a, b'⟩
      · obtain ⟨om', fa', hh, h2⟩ := e l' om2 more' (vI k') y hJ'.1 (by rw [b']; exact d)
        refine ⟨om', fa', hh, ?_⟩
        rw [a] at h2 ⊢
        refine r_goto cd_M_path_227 ?_
        refine r_iload cd_M_path_98 rfl ?_
        refine r_if_eq cd_M_path_100 ⟨by decide, by decide⟩ (fun _ => ?_) (fun c_100 => absurd c_100 (by decide))
        exact h2
      · obtain ⟨om', fa', hh, h2⟩ := ih om2 l' more' (vI k') y (by omega) hJ'.1 e
        refine ⟨om', fa', hh, ?_⟩
        rw [a] at h2 ⊢
        refine r_goto cd_M_path_227 ?_
        refine r_iload cd_M_path_98 rfl ?_
        refine r_if_eq cd_M_path_100 ⟨by decide, by decide⟩ (fun c_100 => absurd c_100 (by decide)) (fun _ => ?_)
        exact h2
      )
    refine ⟨om', fa', hh, ?_⟩
    refine r_iconst cd_M_path_103 ?_
    refine r_istore7_4 cd_M_path_104 rfl ?_
    refine r_iconst cd_M_path_106 ?_
    refine r_istore7_5 cd_M_path_107 rfl ?_
    exact h2
-- the first man of a fewest way
def FFs (w c9 : List Int) (a rest lo hi R : Int) : Prop := ∃ y : Int, lo ≤ y ∧ y < hi ∧ rcv w a y = R ∧ frm c9 R = rest
theorem ff_P {c9 : List Int} {a rest : Int} (hr : 0 ≤ rest) : ∀ (k : Nat) (way l : Int), (l = -6 ∨ 0 ≤ l) → ((ffA w c9 a rest k way l = l ∨ FFs w c9 a rest way (way + k) (ffA w c9 a rest k way l)) ∧ (l ≠ -6 → ffA w c9 a rest k way l ≠ -6 ∧ ffA w c9 a rest k way l ≤ l) ∧ ∀ y : Int, way ≤ y → y < way + k → frm c9 (rcv w a y) = rest → ffA w c9 a rest k way l ≠ -6 ∧ ffA w c9 a rest k way l ≤ rcv w a y)
  | 0, way, l, hl => by
    unfold ffA
    exact ⟨Or.inl rfl, fun h => ⟨h, Int.le_refl _⟩, fun y h0 h1 => by omega⟩
  | k + 1, way, l, hl => by
    have hpos : frm c9 (rcv w a way) = rest → 0 ≤ rcv w a way := by
      intro h
      unfold frm at h
      split at h
      · next z => exact z.1
      · omega
    unfold ffA
    by_cases z : frm c9 (rcv w a way) = rest ∧ (l = -6 ∨ rcv w a way < l)
    · rw [if_pos z]
      have hp := hpos z.1
      have ih := ff_P (c9 := c9) (a := a) hr k (way + 1) (rcv w a way) (Or.inr hp)
      have q := ih.2.1 (by omega)
      have q2 : l ≠ -6 → ffA w c9 a rest k (way + 1) (rcv w a way) ≤ l := by
        intro h
        have z2 := z.2
        clear ih
        omega
      refine ⟨?_, fun h => ⟨q.1, q2 h⟩, fun y h0 h1 hy => ?_⟩
      · right
        rcases ih.1 with e | ⟨y, h0, h1, h2, h3⟩
        · exact ⟨way, by omega, by omega, e.symm, by rw [e]; exact z.1⟩
        · exact ⟨y, by omega, by omega, h2, h3⟩
      · by_cases u : y = way
        · rw [u]; exact q
        · exact ih.2.2 y (by omega) (by omega) hy
    · rw [if_neg z]
      have ih := ff_P (c9 := c9) (a := a) hr k (way + 1) l hl
      refine ⟨?_, ih.2.1, fun y h0 h1 hy => ?_⟩
      · rcases ih.1 with e | ⟨y, h0, h1, h2, h3⟩
        · exact Or.inl e
        · exact Or.inr ⟨y, by omega, by omega, h2, h3⟩
      · by_cases u : y = way
        · rw [u] at hy ⊢
          have hl2 : l ≠ -6 ∧ l ≤ rcv w a way := by
            by_cases v1 : l = -6
            · exact absurd ⟨hy, Or.inl v1⟩ z
            · refine ⟨v1, ?_⟩
              by_cases v2 : rcv w a way < l
              · exact absurd ⟨hy, Or.inr v2⟩ z
              · omega
          have := ih.2.1 hl2.1
          omega
        · exact ih.2.2 y (by omega) (by omega) hy
theorem lp_M_pf {r m what own R : Int} (hw : WF w) (ha : at_ w 16 ≠ -6) (hF : FR fa) (ho : 0 ≤ own) (ho2 : own < 1000000) (h0 : own = 0 → R = -6) (hR : 0 < own → ∃ k : Int, 0 ≤ k ∧ k < 40 ∧ mk k ∧ wh k = R ∧ at_ fa k + 1 = own ∧ ed w (10 * at_ w 16 + at_ w 17) R) (hm : ∀ k : Int, 0 ≤ k → k < 40 → mk k → at_ fa k + 1 = own → ed w (10 * at_ w 16 + at_ w 17) (wh k) → R ≤ wh k) : ∀ (f : Nat) (x om : Int) (x4 : MV), 0 ≤ x → x + f = 40 → (∀ k : Int, 0 ≤ k → k < x → 0 < own → ¬ (mk k ∧ at_ fa k + 1 = own ∧ ed w (10 * at_ w 16 + at_ w 17) (wh k))) → ∃ om', Rn xs m_M_path 283 [vR 40, vI r, vI m, vI what, x4, vI own, vI x] [] (z40 c (rf mn mc sm om ga mr ma ax b w sv dv fa gr ng wy im kp0)) (some (vI R)) (z40 c (rf mn mc sm om' ga mr ma ax b w sv dv fa gr ng wy im kp0)) := by
  have hfl : ((fa.length : Nat) : Int) = 40 := by rw [hF.1]; rfl
  obtain ⟨a1, a2, a3, a4⟩ := alive_bd hw ha
  intro f
  induction f with
  | zero =>
    intro x om x4 x0 x1 hq
    refine ⟨om, ?_⟩
    have hRv : R = -6 := by
      by_cases z : own = 0
      · exact h0 z
      · obtain ⟨k, k0, k1, hk, hwk, hc, he⟩ := hR (by omega)
        exact absurd ⟨hk, hc, by rw [hwk]; exact he⟩ (hq k k0 (by omega) (by omega))
    refine r_iload cd_M_path_283 rfl ?_
    refine r_bipush cd_M_path_285 ?_
    refine r_icmp_ge cd_M_path_287 ⟨by omega, by omega⟩ ⟨by decide, by decide⟩ (fun c_287 => ?_) (fun c_287 => ?_)
    · skip
      refine r_bipush cd_M_path_371 ?_
      exact r_iret cd_M_path_373 rt_M_path (by omega) (by rfl)
    · skip
      omega
  | succ f ih =>
    intro x om x4 x0 x1 hq
    have fx := hF.2 x x0 (by omega)
    have d3 : x.tdiv 5 = x / 5 := Int.tdiv_eq_ediv_of_nonneg x0
    have d4 : x.tmod 5 = x % 5 := Int.tmod_eq_emod_of_nonneg x0
    have step : ∀ om2 : Int, (0 < own → ¬ (mk x ∧ at_ fa x + 1 = own ∧ ed w (10 * at_ w 16 + at_ w 17) (wh x))) → ∃ om', Rn xs m_M_path 283 [vR 40, vI r, vI m, vI what, x4, vI own, vI (x + 1)] [] (z40 c (rf mn mc sm om2 ga mr ma ax b w sv dv fa gr ng wy im kp0)) (some (vI R)) (z40 c (rf mn mc sm om' ga mr ma ax b w sv dv fa gr ng wy im kp0)) := by
      intro om2 hno
      exact ih (x + 1) om2 x4 (by omega) (by omega) (fun k k0 k1 h1 => by
        by_cases z : k = x
        · rw [z]; exact hno h1
        · exact hq k k0 (by omega) h1)
    by_cases z1 : 0 < own
    · by_cases zx : mk x
      · have hmx := men_bd zx.2.1 zx.2.2.1
        by_cases zl : at_ fa x + 1 = own
        · obtain ⟨om2, hS0⟩ := sp_M_passes (xs := xs) (x := x % 5) (zr_O (c := c) (mn := mn) (mc := mc) (sm := sm) (om := om) (ga := ga) (mr := mr) (ma := ma) (ax := ax) (b := b) (v := w) (sv := sv) (dv := dv) (fa := fa) (gr := gr) (ng := ng) (wy := wy) (im := im) (kp := kp0)) zr_N hw a1 a2 a3 a4 zx.2.1 zx.2.2.1 zx.1 (by have := zx.2.2.2; omega)
          have hS : Sp xs m_M_passes [vR 40, vI (at_ w 16), vI (at_ w 17), vI (x / 5), vI (x % 5)] (z40 c (rf mn mc sm om ga mr ma ax b w sv dv fa gr ng wy im kp0)) (some (vI (bp (peB w (at_ w 16) (at_ w 17) (x / 5) (x % 5) = true)))) (z40 c (rf mn mc sm om2 ga mr ma ax b w sv dv fa gr ng wy im kp0)) := hS0
          have hpx := pe_ed hw a1 a2 a3 a4 zx.2.1 zx.2.2.1 zx.1 zx.2.2.2
          by_cases zp : peB w (at_ w 16) (at_ w 17) (x / 5) (x % 5) = true
          · have hle := hm x x0 (by omega) zx zl (hpx.mp zp)
            obtain ⟨k, k0, k1, hk, hwk, hc, he⟩ := hR z1
            have hkx : ¬ k < x := fun q => hq k k0 q z1 ⟨hk, hc, by rw [hwk]; exact he⟩
            have heq : R = wh x := by
              have e1 : wh k = 10 * (k / 5) + k % 5 := rfl
              have e2 : wh x = 10 * (x / 5) + x % 5 := rfl
              omega
            refine ⟨om2, ?_⟩
            refine r_iload cd_M_path_283 rfl ?_
            refine r_bipush cd_M_path_285 ?_
            refine r_icmp_ge cd_M_path_287 ⟨by omega, by omega⟩ ⟨by decide, by decide⟩ (fun c_287 => ?_) (fun c_287 => ?_)
            · skip
              omega
            · skip
              refine r_iload cd_M_path_290 rfl ?_
              refine r_if_le cd_M_path_292 ⟨by omega, by omega⟩ (fun c_292 => ?_) (fun c_292 => ?_)
              · skip
                first | exact absurd zx c_306 | exact absurd zp c_349 | omega
              · skip
                refine r_iload cd_M_path_295 rfl ?_
                refine r_iconst cd_M_path_297 ?_
                refine r_idiv cd_M_path_298 ⟨by omega, by omega⟩ ⟨by decide, by decide⟩ (by decide) ?_
                refine r_iload cd_M_path_299 rfl ?_
                refine r_iconst cd_M_path_301 ?_
                refine r_irem cd_M_path_302 ⟨by omega, by omega⟩ ⟨by decide, by decide⟩ (by decide) ?_
                refine r_cv2 cd_M_path_303 rfl ck_M_path_M_isMan rfl (Nat.le_of_ble_eq_true rfl) (by rw [d3, d4]; exact sp_M_isMan ⟨by omega, by omega⟩ ⟨by omega, by omega⟩) ?_
                refine r_ifeq_p cd_M_path_306 (fun c_306 => ?_) (fun c_306 => ?_)
                · skip
                  first | exact absurd zx c_306 | exact absurd zp c_349 | omega
                · skip
                  refine r_aload_n cd_M_path_309 rfl ?_
                  refine r_getfield cd_M_path_310 zr_O rfl ?_
                  refine r_iload cd_M_path_313 rfl ?_
                  refine r_iaload (N := 40) cd_M_path_315 zr_F hfl (by omega) (by omega) (by omega) ?_
                  refine r_iconst cd_M_path_316 ?_
                  refine r_iadd cd_M_path_317 ?_
                  refine r_iload cd_M_path_318 rfl ?_
                  refine r_icmp_ne cd_M_path_320 ⟨by omega, by omega⟩ ⟨by omega, by omega⟩ (fun c_320 => ?_) (fun c_320 => ?_)
                  · skip
                    first | exact absurd zx c_306 | exact absurd zp c_349 | omega
                  · skip
                    refine r_aload_n cd_M_path_323 rfl ?_
                    refine r_aload_n cd_M_path_324 rfl ?_
                    refine r_getfield cd_M_path_325 zr_O rfl ?_
                    refine r_bipush cd_M_path_328 ?_
                    refine r_iaload (N := 21) cd_M_path_330 zr_N (wlen hw) (by omega) (by omega) (by omega) ?_
                    refine r_aload_n cd_M_path_331 rfl ?_
                    refine r_getfield cd_M_path_332 zr_O rfl ?_
                    refine r_bipush cd_M_path_335 ?_
                    refine r_iaload (N := 21) cd_M_path_337 zr_N (wlen hw) (by omega) (by omega) (by omega) ?_
                    refine r_iload cd_M_path_338 rfl ?_
                    refine r_iconst cd_M_path_340 ?_
                    refine r_idiv cd_M_path_341 ⟨by omega, by omega⟩ ⟨by decide, by decide⟩ (by decide) ?_
                    refine r_iload cd_M_path_342 rfl ?_
                    refine r_iconst cd_M_path_344 ?_
                    refine r_irem cd_M_path_345 ⟨by omega, by omega⟩ ⟨by decide, by decide⟩ (by decide) ?_
                    refine r_vv4 cd_M_path_346 rfl ck_M_path_M_passes (Nat.le_of_ble_eq_true rfl) zr_O rfl (by rw [d3, d4]; exact hS) ?_
                    skip
                    refine r_ifeq_p cd_M_path_349 (fun c_349 => ?_) (fun c_349 => ?_)
                    · skip
                      first | exact absurd zx c_306 | exact absurd zp c_349 | omega
                    · skip
                      refine r_bipush cd_M_path_352 ?_
                      refine r_iload cd_M_path_354 rfl ?_
                      refine r_iconst cd_M_path_356 ?_
                      refine r_idiv cd_M_path_357 ⟨by omega, by omega⟩ ⟨by decide, by decide⟩ (by decide) ?_
                      refine r_imul cd_M_path_358 ?_
                      refine r_iload cd_M_path_359 rfl ?_
                      refine r_iconst cd_M_path_361 ?_
                      refine r_irem cd_M_path_362 ⟨by omega, by omega⟩ ⟨by decide, by decide⟩ (by decide) ?_
                      refine r_iadd cd_M_path_363 ?_
                      exact r_iret cd_M_path_364 rt_M_path (by (rw [d3, d4, heq]; rfl)) (by rfl)
          · obtain ⟨om', h2⟩ := step om2 (fun _ q => zp (hpx.mpr q.2.2))
            refine ⟨om', ?_⟩
            refine r_iload cd_M_path_283 rfl ?_
            refine r_bipush cd_M_path_285 ?_
            refine r_icmp_ge cd_M_path_287 ⟨by omega, by omega⟩ ⟨by decide, by decide⟩ (fun c_287 => ?_) (fun c_287 => ?_)
            · skip
              omega
            · skip
              refine r_iload cd_M_path_290 rfl ?_
              refine r_if_le cd_M_path_292 ⟨by omega, by omega⟩ (fun c_292 => ?_) (fun c_292 => ?_)
              · skip
                refine r_iinc7_6 cd_M_path_365 rfl ?_
                refine r_goto cd_M_path_368 ?_
                first | exact h2 | exact absurd zx c_306 | omega
              · skip
                refine r_iload cd_M_path_295 rfl ?_
                refine r_iconst cd_M_path_297 ?_
                refine r_idiv cd_M_path_298 ⟨by omega, by omega⟩ ⟨by decide, by decide⟩ (by decide) ?_
                refine r_iload cd_M_path_299 rfl ?_
                refine r_iconst cd_M_path_301 ?_
                refine r_irem cd_M_path_302 ⟨by omega, by omega⟩ ⟨by decide, by decide⟩ (by decide) ?_
                refine r_cv2 cd_M_path_303 rfl ck_M_path_M_isMan rfl (Nat.le_of_ble_eq_true rfl) (by rw [d3, d4]; exact sp_M_isMan ⟨by omega, by omega⟩ ⟨by omega, by omega⟩) ?_
                refine r_ifeq_p cd_M_path_306 (fun c_306 => ?_) (fun c_306 => ?_)
                · skip
                  refine r_iinc7_6 cd_M_path_365 rfl ?_
                  refine r_goto cd_M_path_368 ?_
                  first | exact h2 | exact absurd zx c_306 | omega
                · skip
                  refine r_aload_n cd_M_path_309 rfl ?_
                  refine r_getfield cd_M_path_310 zr_O rfl ?_
                  refine r_iload cd_M_path_313 rfl ?_
                  refine r_iaload (N := 40) cd_M_path_315 zr_F hfl (by omega) (by omega) (by omega) ?_
                  refine r_iconst cd_M_path_316 ?_
                  refine r_iadd cd_M_path_317 ?_
                  refine r_iload cd_M_path_318 rfl ?_
                  refine r_icmp_ne cd_M_path_320 ⟨by omega, by omega⟩ ⟨by omega, by omega⟩ (fun c_320 => ?_) (fun c_320 => ?_)
                  · skip
                    refine r_iinc7_6 cd_M_path_365 rfl ?_
                    refine r_goto cd_M_path_368 ?_
                    first | exact h2 | exact absurd zx c_306 | omega
                  · skip
                    refine r_aload_n cd_M_path_323 rfl ?_
                    refine r_aload_n cd_M_path_324 rfl ?_
                    refine r_getfield cd_M_path_325 zr_O rfl ?_
                    refine r_bipush cd_M_path_328 ?_
                    refine r_iaload (N := 21) cd_M_path_330 zr_N (wlen hw) (by omega) (by omega) (by omega) ?_
                    refine r_aload_n cd_M_path_331 rfl ?_
                    refine r_getfield cd_M_path_332 zr_O rfl ?_
                    refine r_bipush cd_M_path_335 ?_
                    refine r_iaload (N := 21) cd_M_path_337 zr_N (wlen hw) (by omega) (by omega) (by omega) ?_
                    refine r_iload cd_M_path_338 rfl ?_
                    refine r_iconst cd_M_path_340 ?_
                    refine r_idiv cd_M_path_341 ⟨by omega, by omega⟩ ⟨by decide, by decide⟩ (by decide) ?_
                    refine r_iload cd_M_path_342 rfl ?_
                    refine r_iconst cd_M_path_344 ?_
                    refine r_irem cd_M_path_345 ⟨by omega, by omega⟩ ⟨by decide, by decide⟩ (by decide) ?_
                    refine r_vv4 cd_M_path_346 rfl ck_M_path_M_passes (Nat.le_of_ble_eq_true rfl) zr_O rfl (by rw [d3, d4]; exact hS) ?_
                    skip
                    refine r_ifeq_p cd_M_path_349 (fun c_349 => ?_) (fun c_349 => ?_)
                    · skip
                      refine r_iinc7_6 cd_M_path_365 rfl ?_
                      refine r_goto cd_M_path_368 ?_
                      first | exact h2 | exact absurd zx c_306 | omega
                    · skip
                      exact absurd c_349 zp
        · obtain ⟨om', h2⟩ := step om (fun _ q => zl q.2.1)
          refine ⟨om', ?_⟩
          refine r_iload cd_M_path_283 rfl ?_
          refine r_bipush cd_M_path_285 ?_
          refine r_icmp_ge cd_M_path_287 ⟨by omega, by omega⟩ ⟨by decide, by decide⟩ (fun c_287 => ?_) (fun c_287 => ?_)
          · skip
            omega
          · skip
            refine r_iload cd_M_path_290 rfl ?_
            refine r_if_le cd_M_path_292 ⟨by omega, by omega⟩ (fun c_292 => ?_) (fun c_292 => ?_)
            · skip
              refine r_iinc7_6 cd_M_path_365 rfl ?_
              refine r_goto cd_M_path_368 ?_
              exact h2
            · skip
              refine r_iload cd_M_path_295 rfl ?_
              refine r_iconst cd_M_path_297 ?_
              refine r_idiv cd_M_path_298 ⟨by omega, by omega⟩ ⟨by decide, by decide⟩ (by decide) ?_
              refine r_iload cd_M_path_299 rfl ?_
              refine r_iconst cd_M_path_301 ?_
              refine r_irem cd_M_path_302 ⟨by omega, by omega⟩ ⟨by decide, by decide⟩ (by decide) ?_
              refine r_cv2 cd_M_path_303 rfl ck_M_path_M_isMan rfl (Nat.le_of_ble_eq_true rfl) (by rw [d3, d4]; exact sp_M_isMan ⟨by omega, by omega⟩ ⟨by omega, by omega⟩) ?_
              refine r_ifeq_p cd_M_path_306 (fun c_306 => ?_) (fun c_306 => ?_)
              · skip
                refine r_iinc7_6 cd_M_path_365 rfl ?_
                refine r_goto cd_M_path_368 ?_
                exact h2
              · skip
                refine r_aload_n cd_M_path_309 rfl ?_
                refine r_getfield cd_M_path_310 zr_O rfl ?_
                refine r_iload cd_M_path_313 rfl ?_
                refine r_iaload (N := 40) cd_M_path_315 zr_F hfl (by omega) (by omega) (by omega) ?_
                refine r_iconst cd_M_path_316 ?_
                refine r_iadd cd_M_path_317 ?_
                refine r_iload cd_M_path_318 rfl ?_
                refine r_icmp_ne cd_M_path_320 ⟨by omega, by omega⟩ ⟨by omega, by omega⟩ (fun c_320 => ?_) (fun c_320 => ?_)
                · skip
                  refine r_iinc7_6 cd_M_path_365 rfl ?_
                  refine r_goto cd_M_path_368 ?_
                  exact h2
                · skip
                  omega
      · obtain ⟨om', h2⟩ := step om (fun _ q => zx q.1)
        refine ⟨om', ?_⟩
        refine r_iload cd_M_path_283 rfl ?_
        refine r_bipush cd_M_path_285 ?_
        refine r_icmp_ge cd_M_path_287 ⟨by omega, by omega⟩ ⟨by decide, by decide⟩ (fun c_287 => ?_) (fun c_287 => ?_)
        · skip
          omega
        · skip
          refine r_iload cd_M_path_290 rfl ?_
          refine r_if_le cd_M_path_292 ⟨by omega, by omega⟩ (fun c_292 => ?_) (fun c_292 => ?_)
          · skip
            refine r_iinc7_6 cd_M_path_365 rfl ?_
            refine r_goto cd_M_path_368 ?_
            exact h2
          · skip
            refine r_iload cd_M_path_295 rfl ?_
            refine r_iconst cd_M_path_297 ?_
            refine r_idiv cd_M_path_298 ⟨by omega, by omega⟩ ⟨by decide, by decide⟩ (by decide) ?_
            refine r_iload cd_M_path_299 rfl ?_
            refine r_iconst cd_M_path_301 ?_
            refine r_irem cd_M_path_302 ⟨by omega, by omega⟩ ⟨by decide, by decide⟩ (by decide) ?_
            refine r_cv2 cd_M_path_303 rfl ck_M_path_M_isMan rfl (Nat.le_of_ble_eq_true rfl) (by rw [d3, d4]; exact sp_M_isMan ⟨by omega, by omega⟩ ⟨by omega, by omega⟩) ?_
            refine r_ifeq_p cd_M_path_306 (fun c_306 => ?_) (fun c_306 => ?_)
            · skip
              refine r_iinc7_6 cd_M_path_365 rfl ?_
              refine r_goto cd_M_path_368 ?_
              exact h2
            · skip
              exact absurd c_306 zx
    · obtain ⟨om', h2⟩ := step om (fun q => absurd q z1)
      refine ⟨om', ?_⟩
      refine r_iload cd_M_path_283 rfl ?_
      refine r_bipush cd_M_path_285 ?_
      refine r_icmp_ge cd_M_path_287 ⟨by omega, by omega⟩ ⟨by decide, by decide⟩ (fun c_287 => ?_) (fun c_287 => ?_)
      · skip
        omega
      · skip
        refine r_iload cd_M_path_290 rfl ?_
        refine r_if_le cd_M_path_292 ⟨by omega, by omega⟩ (fun c_292 => ?_) (fun c_292 => ?_)
        · skip
          refine r_iinc7_6 cd_M_path_365 rfl ?_
          refine r_goto cd_M_path_368 ?_
          exact h2
        · skip
          omega
theorem pd_same {t : Int} (hw : WF w) (t0 : 0 ≤ t) (t1 : t < 80) : PD w (dsW w t) := ⟨fun a x a0 a1 x1 he => ds_lip hw t0 t1 a0 a1 x1 he, fun a a0 a1 => by have := ds_bd hw t0 t1 a0 a1; omega, fun a a0 a1 h1 h2 => ds_prev hw t0 t1 a0 a1 h1 h2⟩
theorem pd_far : PD w (fun _ => 1000000) := ⟨fun a x _ _ _ _ => (by decide : (1000000 : Int) ≤ 1000000 + 1), fun a _ _ => (by decide : (0 : Int) ≤ 1000000 ∧ (1000000 : Int) ≤ 1000000), fun a _ _ h1 h2 => absurd h2 (by decide : ¬ (1000000 : Int) < 1000000)⟩
theorem lp_M_p0 {r m what : Int} {rt : Option MV} {q : Int} (hmb : 0 ≤ m ∧ m < 5) (hw : WF w) (ha : at_ w 16 ≠ -6) (h0 : 0 ≤ r) (h1 : r < 8) : ∀ (f : Nat) (k : Int) (l : List Int), 0 ≤ k → k + f = 40 → l.length = 40 → (∀ j : Int, 0 ≤ j → j < k → at_ l j = if j = 5 * r + m ∧ sid r = sid (at_ w 16) then 0 else 1000000) → (∀ (l' : List Int) (k' : Int), l'.length = 40 → (∀ j : Int, 0 ≤ j → j < 40 → at_ l' j = if j = 5 * r + m ∧ sid r = sid (at_ w 16) then 0 else 1000000) → EP xs 95 [vR 40, vI r, vI m, vI what, vI k', vU, vU] c mn mc sm ga mr ma ax b w sv dv gr ng wy im kp0 om l' rt) → EP xs 42 [vR 40, vI r, vI m, vI what, vI k, vU, vU] c mn mc sm ga mr ma ax b w sv dv gr ng wy im kp0 om l rt := by
  obtain ⟨a1, a2, a3, a4⟩ := alive_bd hw ha
  have s1 := sid_bd h0 h1
  have s2 := sid_bd a1 a2
  intro f
  induction f with
  | zero =>
    intro k l k0 k1 hl hq e
    obtain ⟨om', fa', hh, h2⟩ := e l k hl (fun j j0 j1 => hq j j0 (by omega))
    refine ⟨om', fa', hh, ?_⟩
    refine r_iload cd_M_path_42 rfl ?_
    refine r_bipush cd_M_path_44 ?_
    refine r_icmp_ge cd_M_path_46 ⟨by omega, by omega⟩ ⟨by decide, by decide⟩ (fun c_46 => ?_) (fun c_46 => ?_)
    · skip
      exact h2
    · skip
      omega
  | succ f ih =>
    intro k l k0 k1 hl hq e
    have hfl : ((l.length : Nat) : Int) = 40 := by rw [hl]; rfl
    have st : ∀ z : Int, z = (if k = 5 * r + m ∧ sid r = sid (at_ w 16) then 0 else 1000000) → EP xs 42 [vR 40, vI r, vI m, vI what, vI (k + 1), vU, vU] c mn mc sm ga mr ma ax b w sv dv gr ng wy im kp0 om (l.set k.toNat z) rt := fun z hz => ih (k + 1) (l.set k.toNat z) (by omega) (by omega) (by rw [List.length_set]; exact hl) (fun j j0 j1 => by
      rw [az_set k0 (by omega) j0]
      by_cases y : k = j
      · rw [if_pos y, hz, y]
      · rw [if_neg y]
        exact hq j j0 (by omega)) e
    by_cases y : k = 5 * r + m ∧ sid r = sid (at_ w 16)
    · obtain ⟨om', fa', hh, h2⟩ := st 0 (by rw [if_pos y])
      refine ⟨om', fa', hh, ?_⟩
      refine r_iload cd_M_path_42 rfl ?_
      refine r_bipush cd_M_path_44 ?_
      refine r_icmp_ge cd_M_path_46 ⟨by omega, by omega⟩ ⟨by decide, by decide⟩ (fun c_46 => ?_) (fun c_46 => ?_)
      · skip
        omega
      · skip
        refine r_aload_n cd_M_path_49 rfl ?_
        refine r_getfield cd_M_path_50 zr_O rfl ?_
        refine r_iload cd_M_path_53 rfl ?_
        refine r_iload cd_M_path_55 rfl ?_
        refine r_iconst cd_M_path_57 ?_
        refine r_iload_n cd_M_path_58 rfl ?_
        refine r_imul cd_M_path_59 ?_
        refine r_iload_n cd_M_path_60 rfl ?_
        refine r_iadd cd_M_path_61 ?_
        refine r_icmp_ne cd_M_path_62 ⟨by omega, by omega⟩ ⟨by omega, by omega⟩ (fun c_62 => ?_) (fun c_62 => ?_)
        · skip
          omega
        · skip
          refine r_iload_n cd_M_path_65 rfl ?_
          refine r_cv1 cd_M_path_66 rfl ck_M_path_M_sideOf rfl (Nat.le_of_ble_eq_true rfl) (sp_M_sideOf h0 h1) ?_
          refine r_aload_n cd_M_path_69 rfl ?_
          refine r_getfield cd_M_path_70 zr_O rfl ?_
          refine r_bipush cd_M_path_73 ?_
          refine r_iaload (N := 21) cd_M_path_75 zr_N (wlen hw) (by omega) (by omega) (by omega) ?_
          refine r_cv1 cd_M_path_76 rfl ck_M_path_M_sideOf rfl (Nat.le_of_ble_eq_true rfl) (sp_M_sideOf a1 a2) ?_
          refine r_icmp_ne cd_M_path_79 ⟨by omega, by omega⟩ ⟨by omega, by omega⟩ (fun c_79 => ?_) (fun c_79 => ?_)
          · skip
            omega
          · skip
            refine r_iconst cd_M_path_82 ?_
            refine r_goto cd_M_path_83 ?_
            refine r_iastore (N := 40) cd_M_path_88 zr_F hfl (by omega) (by omega) (by omega) ?_
            refine r_iinc7_4 cd_M_path_89 rfl ?_
            refine r_goto cd_M_path_92 ?_
            exact h2
    · obtain ⟨om', fa', hh, h2⟩ := st 1000000 (by rw [if_neg y])
      refine ⟨om', fa', hh, ?_⟩
      refine r_iload cd_M_path_42 rfl ?_
      refine r_bipush cd_M_path_44 ?_
      refine r_icmp_ge cd_M_path_46 ⟨by omega, by omega⟩ ⟨by decide, by decide⟩ (fun c_46 => ?_) (fun c_46 => ?_)
      · skip
        omega
      · skip
        refine r_aload_n cd_M_path_49 rfl ?_
        refine r_getfield cd_M_path_50 zr_O rfl ?_
        refine r_iload cd_M_path_53 rfl ?_
        refine r_iload cd_M_path_55 rfl ?_
        refine r_iconst cd_M_path_57 ?_
        refine r_iload_n cd_M_path_58 rfl ?_
        refine r_imul cd_M_path_59 ?_
        refine r_iload_n cd_M_path_60 rfl ?_
        refine r_iadd cd_M_path_61 ?_
        refine r_icmp_ne cd_M_path_62 ⟨by omega, by omega⟩ ⟨by omega, by omega⟩ (fun c_62 => ?_) (fun c_62 => ?_)
        · skip
          refine r_ldc cd_M_path_86 ?_
          refine r_iastore (N := 40) cd_M_path_88 zr_F hfl (by omega) (by omega) (by omega) ?_
          refine r_iinc7_4 cd_M_path_89 rfl ?_
          refine r_goto cd_M_path_92 ?_
          exact h2
        · skip
          refine r_iload_n cd_M_path_65 rfl ?_
          refine r_cv1 cd_M_path_66 rfl ck_M_path_M_sideOf rfl (Nat.le_of_ble_eq_true rfl) (sp_M_sideOf h0 h1) ?_
          refine r_aload_n cd_M_path_69 rfl ?_
          refine r_getfield cd_M_path_70 zr_O rfl ?_
          refine r_bipush cd_M_path_73 ?_
          refine r_iaload (N := 21) cd_M_path_75 zr_N (wlen hw) (by omega) (by omega) (by omega) ?_
          refine r_cv1 cd_M_path_76 rfl ck_M_path_M_sideOf rfl (Nat.le_of_ble_eq_true rfl) (sp_M_sideOf a1 a2) ?_
          refine r_icmp_ne cd_M_path_79 ⟨by omega, by omega⟩ ⟨by omega, by omega⟩ (fun c_79 => ?_) (fun c_79 => ?_)
          · skip
            refine r_ldc cd_M_path_86 ?_
            refine r_iastore (N := 40) cd_M_path_88 zr_F hfl (by omega) (by omega) (by omega) ?_
            refine r_iinc7_4 cd_M_path_89 rfl ?_
            refine r_goto cd_M_path_92 ?_
            exact h2
          · skip
            omega
set_option maxRecDepth 16384 in
theorem sp_M_path {r m what : Int} (hJ : JL v fa gr ng wy) (hw : WF w) (hr : inR r) (hm : inR m) (hx : inR what) : MSp xs m_M_path [vR 40, vI r, vI m, vI what] (z40 c (rf mn mc sm om ga mr ma ax w v sv dv fa gr ng wy im kp0)) (vI (paA w r m what)) c mn mc w sv dv im kp0 := by
  obtain ⟨x1, x2⟩ := id hx
  have hbl := hw.2.2.2.1
  have sA : Sp xs m_M_asNow [vR 40] (z40 c (rf mn mc sm om ga mr ma ax w v sv dv fa gr ng wy im kp0)) none (z40 c (rf mn mc sm om (-6) mr ma ax w w sv dv fa gr ng wy im kp0)) := sp_asN hw.1 hJ.1
  have jl2 : ∀ fa' : List Int, fa'.length = 40 → JL w fa' gr ng wy := fun fa' h => ⟨hw.1, h, hJ.2.2⟩
  by_cases z0 : 0 ≤ m ∧ 0 ≤ r ∧ r < 8 ∧ m < men r
  · by_cases z1 : what = 0 ∨ what = 1
    · by_cases z2 : at_ w 16 = -6
      · refine ⟨_, mj (sm := sm) (om := om) (ga := -6) (mr := mr) (ma := ma) (ax := ax) (jl_v hJ hw.1), ?_⟩
        unfold paA
        rw [if_pos z0, if_pos z1, if_pos z2]
        refine en_M_path ?_
        refine r_iload_n cd_M_path_0 rfl ?_
        refine r_iload_n cd_M_path_1 rfl ?_
        refine r_cv2 cd_M_path_2 rfl ck_M_path_M_isMan rfl (Nat.le_of_ble_eq_true rfl) (sp_M_isMan hr hm) ?_
        refine r_ifne_p cd_M_path_5 (fun c_5 => ?_) (fun c_5 => ?_)
        · skip
          refine r_iload_n cd_M_path_10 rfl ?_
          refine r_iconst cd_M_path_11 ?_
          refine r_iconst cd_M_path_12 ?_
          refine r_cv3 cd_M_path_13 rfl ck_M_path_M_in rfl (Nat.le_of_ble_eq_true rfl) (sp_M_in hx ⟨by decide, by decide⟩ ⟨by decide, by decide⟩) ?_
          refine r_ifne_p cd_M_path_16 (fun c_16 => ?_) (fun c_16 => ?_)
          · skip
            refine r_aload_n cd_M_path_22 rfl ?_
            refine r_vz0 cd_M_path_23 rfl ck_M_path_M_asNow (Nat.le_of_ble_eq_true rfl) zr_O rfl sA ?_
            refine r_aload_n cd_M_path_26 rfl ?_
            refine r_getfield cd_M_path_27 zr_O rfl ?_
            refine r_bipush cd_M_path_30 ?_
            refine r_iaload (N := 21) cd_M_path_32 zr_N (wlen hw) (by omega) (by omega) (by omega) ?_
            refine r_if_ge cd_M_path_33 ⟨by omega, by omega⟩ (fun c_33 => ?_) (fun c_33 => ?_)
            · skip
              omega
            · skip
              refine r_bipush cd_M_path_36 ?_
              exact r_iret cd_M_path_38 rt_M_path (by rfl) (by rfl)
          · skip
            refine r_bipush cd_M_path_19 ?_
            omega
        · skip
          refine r_iconst cd_M_path_8 ?_
          exact absurd z0 c_5
      · obtain ⟨a1, a2, a3, a4⟩ := alive_bd hw z2
        have hmb := men_bd z0.2.1 z0.2.2.1
        have hmb2 := men_bd a1 a2
        have s1 := sid_bd z0.2.1 z0.2.2.1
        have s2 := sid_bd a1 a2
        have t0 : 0 ≤ 10 * r + m := by omega
        have t1 : 10 * r + m < 80 := by have := z0.2.2.2; omega
        -- what the distances are
        have hPD : ∃ Dd : Int → Int, PD w Dd ∧ (∀ a : Int, 0 ≤ a → a < 80 → Dd a = if sid r = sid (at_ w 16) then dsW w (10 * r + m) a else 1000000) := by
          by_cases y : sid r = sid (at_ w 16)
          · exact ⟨dsW w (10 * r + m), pd_same hw t0 t1, fun a _ _ => by rw [if_pos y]⟩
          · exact ⟨fun _ => 1000000, pd_far, fun a _ _ => by rw [if_neg y]⟩
        obtain ⟨Dd, hP, hDd⟩ := hPD
        have hball : isM (10 * at_ w 16 + at_ w 17) := by
          unfold isM
          rw [show (10 * at_ w 16 + at_ w 17) / 10 = at_ w 16 by omega, show (10 * at_ w 16 + at_ w 17) % 10 = at_ w 17 by omega]
          exact ⟨a1, a2, a4⟩
        have hbk : mk (5 * at_ w 16 + at_ w 17) ∧ wh (5 * at_ w 16 + at_ w 17) = 10 * at_ w 16 + at_ w 17 := by
          unfold mk wh
          rw [show (5 * at_ w 16 + at_ w 17) / 5 = at_ w 16 by omega, show (5 * at_ w 16 + at_ w 17) % 5 = at_ w 17 by omega]
          exact ⟨⟨a3, a1, a2, a4⟩, rfl⟩
        have hbd := hP.2.1 (10 * at_ w 16 + at_ w 17) (by omega) (by omega)
        have hfrm : frm (cnt w (10 * r + m)) (10 * at_ w 16 + at_ w 17) = at_ (cnt w (10 * r + m)) (10 * at_ w 16 + at_ w 17) := by unfold frm; rw [if_pos (by omega)]
        have hCI := (CI_cnt hw t0 t1).2.2.1 (10 * at_ w 16 + at_ w 17) (by omega) (by omega)
        have hans : paA w r m what = if 1000000 ≤ Dd (10 * at_ w 16 + at_ w 17) then -6 else if what = 0 then Dd (10 * at_ w 16 + at_ w 17) else if Dd (10 * at_ w 16 + at_ w 17) = 0 then -6 else ffA w (cnt w (10 * r + m)) (10 * at_ w 16 + at_ w 17) (Dd (10 * at_ w 16 + at_ w 17) - 1) 10 0 (-6) := by
          have hd := hDd (10 * at_ w 16 + at_ w 17) (by omega) (by omega)
          unfold paA
          rw [if_pos z0, if_pos z1, if_neg z2, hfrm]
          by_cases y : sid r = sid (at_ w 16)
          · rw [if_neg (fun q => q y)]
            rw [if_pos y] at hd
            unfold dsW at hd
            generalize at_ (cnt w (10 * r + m)) (10 * at_ w 16 + at_ w 17) = C at *
            by_cases u : C = -6
            · rw [if_pos u] at hd
              rw [u, hd, if_pos (show (1000000 : Int) ≤ 1000000 by decide)]
              by_cases q : what = 0
              · rw [if_pos q]
              · rw [if_neg q, if_pos (show (-6 : Int) - 1 < 0 by decide)]
            · rw [if_neg u] at hd
              rw [hd, if_neg (show ¬ 1000000 ≤ C by omega)]
              by_cases q : what = 0
              · rw [if_pos q, if_pos q]
              · rw [if_neg q, if_neg q]
                by_cases g : C = 0
                · rw [if_pos (show C - 1 < 0 by omega), if_pos g]
                · rw [if_neg (show ¬ C - 1 < 0 by omega), if_neg g]
          · rw [if_pos y]
            rw [if_neg y] at hd
            rw [hd, if_pos (show (1000000 : Int) ≤ 1000000 by decide)]
        rw [hans]
        clear hans
        -- the last part
        have t230 : ∀ (l' : List Int) (om' : Int) (z4 : Int) (z5 z6 : MV), FI Dd l' → FX w l' 40 0 → EP xs 230 [vR 40, vI r, vI m, vI what, vI z4, z5, z6] c mn mc sm (-6) mr ma ax w w sv dv gr ng wy im kp0 om' l' (some (vI (if 1000000 ≤ Dd (10 * at_ w 16 + at_ w 17) then -6 else if what = 0 then Dd (10 * at_ w 16 + at_ w 17) else if Dd (10 * at_ w 16 + at_ w 17) = 0 then -6 else ffA w (cnt w (10 * r + m)) (10 * at_ w 16 + at_ w 17) (Dd (10 * at_ w 16 + at_ w 17) - 1) 10 0 (-6)))) := by
          intro l' om' z4 z5 z6 hI hX
          have hfl : ((l'.length : Nat) : Int) = 40 := by rw [hI.1.1]; rfl
          have hall : ∀ k : Int, 0 ≤ k → k < 40 → mk k → at_ l' k = Dd (wh k) := fun k k0 k1 hk => by
            have hwb := wh_bd k0 k1
            have := (hP.2.1 (wh k) hwb.1 hwb.2).1
            exact fx_done hw hP hI hX (Dd (wh k)).toNat k k0 k1 hk (by omega)
          have hown := hall (5 * at_ w 16 + at_ w 17) (by omega) (by omega) hbk.1
          rw [hbk.2] at hown
          generalize hA : 10 * at_ w 16 + at_ w 17 = A at *
          by_cases u : 1000000 ≤ Dd A
          · refine ⟨om', l', hI.1.1, ?_⟩
            rw [if_pos u]
            refine r_aload_n cd_M_path_230 rfl ?_
            refine r_getfield cd_M_path_231 zr_O rfl ?_
            refine r_iconst cd_M_path_234 ?_
            refine r_aload_n cd_M_path_235 rfl ?_
            refine r_getfield cd_M_path_236 zr_O rfl ?_
            refine r_bipush cd_M_path_239 ?_
            refine r_iaload (N := 21) cd_M_path_241 zr_N (wlen hw) (by omega) (by omega) (by omega) ?_
            refine r_imul cd_M_path_242 ?_
            refine r_aload_n cd_M_path_243 rfl ?_
            refine r_getfield cd_M_path_244 zr_O rfl ?_
            refine r_bipush cd_M_path_247 ?_
            refine r_iaload (N := 21) cd_M_path_249 zr_N (wlen hw) (by omega) (by omega) (by omega) ?_
            refine r_iadd cd_M_path_250 ?_
            refine r_iaload (N := 40) cd_M_path_251 zr_F hfl (by omega) (by omega) (by omega) ?_
            refine r_istore7_5 cd_M_path_252 rfl ?_
            refine r_iload cd_M_path_254 rfl ?_
            refine r_ldc cd_M_path_256 ?_
            refine r_icmp_ge cd_M_path_258 ⟨by omega, by omega⟩ ⟨by decide, by decide⟩ (fun c_258 => ?_) (fun c_258 => ?_)
            · skip
              refine r_iload cd_M_path_265 rfl ?_
              refine r_ldc cd_M_path_267 ?_
              refine r_icmp_lt cd_M_path_269 ⟨by omega, by omega⟩ ⟨by decide, by decide⟩ (fun c_269 => ?_) (fun c_269 => ?_)
              · skip
                omega
              · skip
                refine r_bipush cd_M_path_272 ?_
                refine r_goto cd_M_path_274 ?_
                exact r_iret cd_M_path_279 rt_M_path (by rfl) (by rfl)
            · skip
              omega
          · rw [if_neg u]
            by_cases u2 : what = 0
            · refine ⟨om', l', hI.1.1, ?_⟩
              rw [if_pos u2]
              refine r_aload_n cd_M_path_230 rfl ?_
              refine r_getfield cd_M_path_231 zr_O rfl ?_
              refine r_iconst cd_M_path_234 ?_
              refine r_aload_n cd_M_path_235 rfl ?_
              refine r_getfield cd_M_path_236 zr_O rfl ?_
              refine r_bipush cd_M_path_239 ?_
              refine r_iaload (N := 21) cd_M_path_241 zr_N (wlen hw) (by omega) (by omega) (by omega) ?_
              refine r_imul cd_M_path_242 ?_
              refine r_aload_n cd_M_path_243 rfl ?_
              refine r_getfield cd_M_path_244 zr_O rfl ?_
              refine r_bipush cd_M_path_247 ?_
              refine r_iaload (N := 21) cd_M_path_249 zr_N (wlen hw) (by omega) (by omega) (by omega) ?_
              refine r_iadd cd_M_path_250 ?_
              refine r_iaload (N := 40) cd_M_path_251 zr_F hfl (by omega) (by omega) (by omega) ?_
              refine r_istore7_5 cd_M_path_252 rfl ?_
              refine r_iload cd_M_path_254 rfl ?_
              refine r_ldc cd_M_path_256 ?_
              refine r_icmp_ge cd_M_path_258 ⟨by omega, by omega⟩ ⟨by decide, by decide⟩ (fun c_258 => ?_) (fun c_258 => ?_)
              · skip
                refine r_iload cd_M_path_265 rfl ?_
                refine r_ldc cd_M_path_267 ?_
                refine r_icmp_lt cd_M_path_269 ⟨by omega, by omega⟩ ⟨by decide, by decide⟩ (fun c_269 => ?_) (fun c_269 => ?_)
                · skip
                  refine r_iload cd_M_path_277 rfl ?_
                  exact r_iret cd_M_path_279 rt_M_path (by exact hown) (by rfl)
                · skip
                  omega
              · skip
                refine r_iload_n cd_M_path_261 rfl ?_
                refine r_if_ne cd_M_path_262 ⟨by omega, by omega⟩ (fun c_262 => ?_) (fun c_262 => ?_)
                · skip
                  omega
                · skip
                  refine r_iload cd_M_path_265 rfl ?_
                  refine r_ldc cd_M_path_267 ?_
                  refine r_icmp_lt cd_M_path_269 ⟨by omega, by omega⟩ ⟨by decide, by decide⟩ (fun c_269 => ?_) (fun c_269 => ?_)
                  · skip
                    refine r_iload cd_M_path_277 rfl ?_
                    exact r_iret cd_M_path_279 rt_M_path (by exact hown) (by rfl)
                  · skip
                    omega
            · rw [if_neg u2]
              have hff := fun (hq : Dd A ≠ 0) => ff_P (w := w) (c9 := cnt w (10 * r + m)) (a := A) (rest := Dd A - 1) (by omega) 10 0 (-6) (Or.inl rfl)
              have hsame : Dd A ≠ 0 → sid r = sid (at_ w 16) := by
                intro q
                by_cases y : sid r = sid (at_ w 16)
                · exact y
                · have := hDd A (by omega) (by omega)
                  rw [if_neg y] at this
                  omega
              have hcD : sid r = sid (at_ w 16) → ∀ y : Int, 0 ≤ y → y < 80 → Dd y < 1000000 → at_ (cnt w (10 * r + m)) y = Dd y := by
                intro hs y y0 y1 hlt
                have := hDd y y0 y1
                rw [if_pos hs] at this
                unfold dsW at this
                split at this
                · omega
                · exact this.symm
              have hDc : sid r = sid (at_ w 16) → ∀ y : Int, 0 ≤ y → y < 80 → at_ (cnt w (10 * r + m)) y ≠ -6 → Dd y = at_ (cnt w (10 * r + m)) y := by
                intro hs y y0 y1 hne
                have := hDd y y0 y1
                rw [if_pos hs] at this
                unfold dsW at this
                rw [if_neg hne] at this
                exact this
              obtain ⟨om2, h2⟩ := lp_M_pf (xs := xs) (c := c) (mn := mn) (mc := mc) (sm := sm) (ga := -6) (mr := mr) (ma := ma) (ax := ax) (b := w) (sv := sv) (dv := dv) (fa := l') (gr := gr) (ng := ng) (wy := wy) (im := im) (kp0 := kp0) (r := r) (m := m) (what := what) (own := Dd A) (R := if Dd A = 0 then -6 else ffA w (cnt w (10 * r + m)) A (Dd A - 1) 10 0 (-6)) hw z2 hI.1 hbd.1 (by omega) (fun q => by rw [if_pos q]) (fun q => by
                rw [if_neg (by omega), hA]
                obtain ⟨x, xx1, he, hx2⟩ := hP.2.2 A (by omega) (by omega) (by omega) (by omega)
                have hs := hsame (by omega)
                have hcx := hcD hs x he.1 xx1 (by omega)
                obtain ⟨x00, way, w0, w1, hway⟩ := id he
                have hF := hff (by omega)
                have hfx : frm (cnt w (10 * r + m)) (rcv w A way) = Dd A - 1 := by rw [hway]; unfold frm; rw [if_pos ⟨x00, xx1⟩, hcx]; exact hx2
                have hne := (hF.2.2 way w0 (by omega) hfx).1
                rcases hF.1 with hh | ⟨y, y0, y1, hy, hfy⟩
                · exact absurd hh hne
                · have hb := rcv_bd hw (who := A) (way := y) y0 (by omega)
                  rw [hy] at hb
                  generalize ffA w (cnt w (10 * r + m)) A (Dd A - 1) 10 0 (-6) = R at *
                  have hR0 : 0 ≤ R ∧ R < 80 := by
                    unfold frm at hfy
                    split at hfy
                    · assumption
                    · omega
                  have heR : ed w A R := ⟨hR0.1, y, y0, by omega, hy⟩
                  have hcR : at_ (cnt w (10 * r + m)) R = Dd A - 1 := by
                    unfold frm at hfy
                    rw [if_pos hR0] at hfy
                    exact hfy
                  obtain ⟨k, k0, k1, hk, hwk⟩ := wh_inv (ed_M hw heR).2.1
                  refine ⟨k, k0, k1, hk, hwk, ?_, heR⟩
                  rw [hall k k0 k1 hk, hwk, hDc hs R hR0.1 hR0.2 (by omega), hcR]
                  omega) (fun k k0 k1 hk hc he => by
                rw [hA] at he
                by_cases q : Dd A = 0
                · rw [if_pos q]
                  have := wh_bd k0 k1
                  omega
                · rw [if_neg q]
                  have hs := hsame q
                  have hwb := wh_bd k0 k1
                  obtain ⟨x00, way, w0, w1, hway⟩ := id he
                  have hck := hall k k0 k1 hk
                  have hcx := hcD hs (wh k) hwb.1 hwb.2 (by omega)
                  have hfx : frm (cnt w (10 * r + m)) (rcv w A way) = Dd A - 1 := by rw [hway]; unfold frm; rw [if_pos hwb, hcx]; omega
                  have := ((hff q).2.2 way w0 (by omega) hfx).2
                  rw [hway] at this
                  exact this) 40 0 om' (vI z4) (by omega) (by omega) (fun k k0 k1 => by omega)
              refine ⟨om2, l', hI.1.1, ?_⟩
              refine r_aload_n cd_M_path_230 rfl ?_
              refine r_getfield cd_M_path_231 zr_O rfl ?_
              refine r_iconst cd_M_path_234 ?_
              refine r_aload_n cd_M_path_235 rfl ?_
              refine r_getfield cd_M_path_236 zr_O rfl ?_
              refine r_bipush cd_M_path_239 ?_
              refine r_iaload (N := 21) cd_M_path_241 zr_N (wlen hw) (by omega) (by omega) (by omega) ?_
              refine r_imul cd_M_path_242 ?_
              refine r_aload_n cd_M_path_243 rfl ?_
              refine r_getfield cd_M_path_244 zr_O rfl ?_
              refine r_bipush cd_M_path_247 ?_
              refine r_iaload (N := 21) cd_M_path_249 zr_N (wlen hw) (by omega) (by omega) (by omega) ?_
              refine r_iadd cd_M_path_250 ?_
              refine r_iaload (N := 40) cd_M_path_251 zr_F hfl (by omega) (by omega) (by omega) ?_
              refine r_istore7_5 cd_M_path_252 rfl ?_
              refine r_iload cd_M_path_254 rfl ?_
              refine r_ldc cd_M_path_256 ?_
              refine r_icmp_ge cd_M_path_258 ⟨by omega, by omega⟩ ⟨by decide, by decide⟩ (fun c_258 => ?_) (fun c_258 => ?_)
              · skip
                omega
              · skip
                refine r_iload_n cd_M_path_261 rfl ?_
                refine r_if_ne cd_M_path_262 ⟨by omega, by omega⟩ (fun c_262 => ?_) (fun c_262 => ?_)
                · skip
                  refine r_iconst cd_M_path_280 ?_
                  refine r_istore7_6 cd_M_path_281 rfl ?_
                  (rw [hown]; exact h2)
                · skip
                  omega
        have t95 : ∀ (l' : List Int) (k' : Int), l'.length = 40 → (∀ j : Int, 0 ≤ j → j < 40 → at_ l' j = if j = 5 * r + m ∧ sid r = sid (at_ w 16) then 0 else 1000000) → EP xs 95 [vR 40, vI r, vI m, vI what, vI k', vU, vU] c mn mc sm (-6) mr ma ax w w sv dv gr ng wy im kp0 om l' (some (vI (if 1000000 ≤ Dd (10 * at_ w 16 + at_ w 17) then -6 else if what = 0 then Dd (10 * at_ w 16 + at_ w 17) else if Dd (10 * at_ w 16 + at_ w 17) = 0 then -6 else ffA w (cnt w (10 * r + m)) (10 * at_ w 16 + at_ w 17) (Dd (10 * at_ w 16 + at_ w 17) - 1) 10 0 (-6)))) := by
          intro l' k' hl' hq
          have hFR : FR l' := ⟨hl', fun k k0 k1 => by rw [hq k k0 k1]; split <;> omega⟩
          have hFI : FI Dd l' := ⟨hFR, fun k k0 k1 hk => by
            have hwb := wh_bd k0 k1
            have hD := hDd (wh k) hwb.1 hwb.2
            have hPb := hP.2.1 (wh k) hwb.1 hwb.2
            have e1 : wh k = 10 * (k / 5) + k % 5 := rfl
            rw [hq k k0 k1]
            by_cases y : sid r = sid (at_ w 16)
            · rw [if_pos y] at hD
              have hz := (ds_bd hw t0 t1 hwb.1 hwb.2).2.2
              by_cases u : k = 5 * r + m
              · rw [if_pos ⟨u, y⟩]
                have : wh k = 10 * r + m := by rw [e1, u]; omega
                have := hz.mpr this
                omega
              · rw [if_neg (fun g => u g.1)]
                refine ⟨hPb.2, fun g => ?_⟩
                have := hz.mp (by omega)
                omega
            · rw [if_neg y] at hD
              rw [if_neg (fun g => y g.2)]
              omega⟩
          obtain ⟨om', fa', hh, h2⟩ := lp_M_pw (xs := xs) (c := c) (mn := mn) (mc := mc) (sm := sm) (ga := -6) (mr := mr) (ma := ma) (ax := ax) (b := w) (sv := sv) (dv := dv) (gr := gr) (ng := ng) (wy := wy) (im := im) (kp0 := kp0) (r := r) (m := m) (what := what) hw hP ((sumZ l').toNat + 1) om l' 1 vU vU (by omega) hFI t230
          refine ⟨om', fa', hh, ?_⟩
          refine r_iconst cd_M_path_95 ?_
          refine r_istore7_4 cd_M_path_96 rfl ?_
          refine r_iload cd_M_path_98 rfl ?_
          refine r_if_eq cd_M_path_100 ⟨by decide, by decide⟩ (fun c_100 => absurd c_100 (by decide)) (fun _ => ?_)
          exact h2
        obtain ⟨om', fa', hh, h2⟩ := lp_M_p0 (xs := xs) (c := c) (mn := mn) (mc := mc) (sm := sm) (om := om) (ga := -6) (mr := mr) (ma := ma) (ax := ax) (b := w) (sv := sv) (dv := dv) (gr := gr) (ng := ng) (wy := wy) (im := im) (kp0 := kp0) (r := r) (m := m) (what := what) (q := 0) ⟨z0.1, by have := z0.2.2.2; omega⟩ hw z2 z0.2.1 z0.2.2.1 40 0 fa (by omega) (by omega) hJ.2.1 (fun j j0 j1 => by omega) t95
        refine ⟨_, mj (sm := sm) (om := om') (ga := -6) (mr := mr) (ma := ma) (ax := ax) (jl2 fa' hh), ?_⟩
        refine en_M_path ?_
        refine r_iload_n cd_M_path_0 rfl ?_
        refine r_iload_n cd_M_path_1 rfl ?_
        refine r_cv2 cd_M_path_2 rfl ck_M_path_M_isMan rfl (Nat.le_of_ble_eq_true rfl) (sp_M_isMan hr hm) ?_
        refine r_ifne_p cd_M_path_5 (fun c_5 => ?_) (fun c_5 => ?_)
        · skip
          refine r_iload_n cd_M_path_10 rfl ?_
          refine r_iconst cd_M_path_11 ?_
          refine r_iconst cd_M_path_12 ?_
          refine r_cv3 cd_M_path_13 rfl ck_M_path_M_in rfl (Nat.le_of_ble_eq_true rfl) (sp_M_in hx ⟨by decide, by decide⟩ ⟨by decide, by decide⟩) ?_
          refine r_ifne_p cd_M_path_16 (fun c_16 => ?_) (fun c_16 => ?_)
          · skip
            refine r_aload_n cd_M_path_22 rfl ?_
            refine r_vz0 cd_M_path_23 rfl ck_M_path_M_asNow (Nat.le_of_ble_eq_true rfl) zr_O rfl sA ?_
            refine r_aload_n cd_M_path_26 rfl ?_
            refine r_getfield cd_M_path_27 zr_O rfl ?_
            refine r_bipush cd_M_path_30 ?_
            refine r_iaload (N := 21) cd_M_path_32 zr_N (wlen hw) (by omega) (by omega) (by omega) ?_
            refine r_if_ge cd_M_path_33 ⟨by omega, by omega⟩ (fun c_33 => ?_) (fun c_33 => ?_)
            · skip
              refine r_iconst cd_M_path_39 ?_
              refine r_istore7_4 cd_M_path_40 rfl ?_
              exact h2
            · skip
              omega
          · skip
            refine r_bipush cd_M_path_19 ?_
            omega
        · skip
          refine r_iconst cd_M_path_8 ?_
          exact absurd z0 c_5
    · refine ⟨_, mj (sm := sm) (om := om) (ga := ga) (mr := mr) (ma := ma) (ax := ax) hJ, ?_⟩
      unfold paA
      rw [if_pos z0, if_neg z1]
      refine en_M_path ?_
      refine r_iload_n cd_M_path_0 rfl ?_
      refine r_iload_n cd_M_path_1 rfl ?_
      refine r_cv2 cd_M_path_2 rfl ck_M_path_M_isMan rfl (Nat.le_of_ble_eq_true rfl) (sp_M_isMan hr hm) ?_
      refine r_ifne_p cd_M_path_5 (fun c_5 => ?_) (fun c_5 => ?_)
      · skip
        refine r_iload_n cd_M_path_10 rfl ?_
        refine r_iconst cd_M_path_11 ?_
        refine r_iconst cd_M_path_12 ?_
        refine r_cv3 cd_M_path_13 rfl ck_M_path_M_in rfl (Nat.le_of_ble_eq_true rfl) (sp_M_in hx ⟨by decide, by decide⟩ ⟨by decide, by decide⟩) ?_
        refine r_ifne_p cd_M_path_16 (fun c_16 => ?_) (fun c_16 => ?_)
        · skip
          omega
        · skip
          refine r_bipush cd_M_path_19 ?_
          exact r_iret cd_M_path_21 rt_M_path (by rfl) (by rfl)
      · skip
        refine r_iconst cd_M_path_8 ?_
        exact absurd z0 c_5
  · refine ⟨_, mj (sm := sm) (om := om) (ga := ga) (mr := mr) (ma := ma) (ax := ax) hJ, ?_⟩
    unfold paA
    rw [if_neg z0]
    refine en_M_path ?_
    refine r_iload_n cd_M_path_0 rfl ?_
    refine r_iload_n cd_M_path_1 rfl ?_
    refine r_cv2 cd_M_path_2 rfl ck_M_path_M_isMan rfl (Nat.le_of_ble_eq_true rfl) (sp_M_isMan hr hm) ?_
    refine r_ifne_p cd_M_path_5 (fun c_5 => ?_) (fun c_5 => ?_)
    · skip
      exact absurd c_5 z0
    · skip
      refine r_iconst cd_M_path_8 ?_
      exact r_iret cd_M_path_9 rt_M_path (by rfl) (by rfl)
end C83
