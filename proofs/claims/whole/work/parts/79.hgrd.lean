-- hands: the tables step by step, and the hands that let go of what is needed last
section C79
def NG (g : List Int) (r : Nat) (l : List Int) (s k : Nat) : Prop := l.length = 16 ∧ (∀ T : Nat, T < 16 → ∀ B : Int, B ≤ 1000000 → (∀ s' : Nat, s' < 16 → ∀ k' : Nat, k' < 16 → adm s' k' r = true → k' ||| 2 ^ r = T → B ≤ at_ g s' + mis s' r) → B ≤ at_ l T) ∧ (∀ s' : Nat, s' < 16 → ∀ k' : Nat, k' < 16 → adm s' k' r = true → (s' < s ∨ (s' = s ∧ k' < k)) → at_ l ((k' ||| 2 ^ r : Nat) : Int) ≤ at_ g s' + mis s' r)
theorem NG_init {g l : List Int} {r : Nat} (hl : l.length = 16) (h : ∀ j : Int, 0 ≤ j → j < 16 → at_ l j = 1000000) : NG g r l 0 0 := by
  refine ⟨hl, fun T hT B hB _ => ?_, fun s' _ k' _ _ h0 => by omega⟩
  rw [h T (by omega) (by omega)]
  exact hB
theorem th_k : ∀ k : Nat, k < 16 → ∀ r : Nat, r < 4 → (k ||| 2 ^ r) < 16 := by decide +kernel
theorem NG_skip {g l : List Int} {r s k : Nat} (h : NG g r l s k) (hn : adm s k r = true → at_ l ((k ||| 2 ^ r : Nat) : Int) ≤ at_ g s + mis s r) : NG g r l s (k + 1) := by
  refine ⟨h.1, h.2.1, fun s' hs k' hk ha h0 => ?_⟩
  by_cases z : s' = s ∧ k' = k
  · obtain ⟨z1, z2⟩ := z
    subst z1; subst z2
    exact hn ha
  · exact h.2.2 s' hs k' hk ha (by omega)
theorem NG_set {g l : List Int} {r s k : Nat} (hr : r < 4) (hs : s < 16) (hk : k < 16) (h : NG g r l s k) (ha : adm s k r = true) (hc : at_ g s + mis s r < at_ l ((k ||| 2 ^ r : Nat) : Int)) : NG g r (l.set (k ||| 2 ^ r) (at_ g s + mis s r)) s (k + 1) := by
  have ht := th_k k hk r hr
  have key : ∀ j : Nat, at_ (l.set (k ||| 2 ^ r) (at_ g s + mis s r)) (j : Int) = if (k ||| 2 ^ r) = j then at_ g s + mis s r else at_ l j := by
    intro j
    have e := az_set (l := l) (i := ((k ||| 2 ^ r : Nat) : Int)) (j := (j : Int)) (v := at_ g s + mis s r) (by omega) (by rw [h.1]; omega) (by omega)
    rw [show (((k ||| 2 ^ r : Nat) : Int)).toNat = k ||| 2 ^ r by omega] at e
    rw [e]
    by_cases z : (k ||| 2 ^ r) = j
    · rw [if_pos z, if_pos (by omega)]
    · rw [if_neg z, if_neg (by omega)]
  refine ⟨by rw [List.length_set]; exact h.1, fun T hT B hB hq => ?_, fun s' hs' k' hk' ha' h0 => ?_⟩
  · rw [key T]
    split
    · next z => exact hq s hs k hk ha z
    · exact h.2.1 T hT B hB hq
  · rw [key]
    by_cases z : s' = s ∧ k' = k
    · obtain ⟨z1, z2⟩ := z
      subst z1; subst z2
      rw [if_pos rfl]
      omega
    · have e := h.2.2 s' hs' k' hk' ha' (by omega)
      split
      · next y => rw [← y] at e; omega
      · exact e
theorem NG_row {g l : List Int} {r s : Nat} (h : NG g r l s 16) : NG g r l (s + 1) 0 := ⟨h.1, h.2.1, fun s' hs k' hk ha h0 => h.2.2 s' hs k' hk ha (by omega)⟩
def DInv (g : List Int) (d W : Nat) (m : Int) : Prop := g.length = 16 ∧ ∀ s : Nat, s < 16 → m + cls d W s ≤ at_ g s ∧ (cls d W s = 0 → at_ g s = m)
theorem cls_5 (d W s : Nat) : cls d W s ≤ 5 := by
  unfold cls
  cases Nat.beq d 4 <;> cases Nat.beq s 0 <;> cases (Nat.beq (bt s d) 1 && Nat.ble (pc4 s) 2) <;> cases Nat.beq ((s - 2 ^ d) &&& W) (s - 2 ^ d) <;> decide
theorem stM_1 (d W r : Nat) : stM d W r ≤ 1 := by
  unfold stM
  cases (Nat.beq r d || Nat.beq (bt W r) 1) <;> decide
theorem nbeq {a b : Nat} : Nat.beq a b = true ↔ a = b := ⟨Nat.eq_of_beq_eq_true, fun h => by rw [h]; exact Nat.beq_refl b⟩
theorem kUp_g {d W r T : Nat} (hd : d < 5) (hW : W < 16) (hr : r < 4) (hT : T < 16) (hv : vB d W = true) (hz : cls r (stW d W r) T = 0) : ∃ s k : Nat, s < 16 ∧ k < 16 ∧ adm s k r = true ∧ k ||| 2 ^ r = T ∧ cls d W s = 0 ∧ mis s r = stM d W r := by
  have e := kUp_A
  unfold kUpA at e
  have e2 := all_r (all_r (all_r (all_r e hd) hW) hr) hT
  unfold kUp at e2
  rw [hv, hz] at e2
  simp only [Bool.not_true, Bool.false_or] at e2
  rw [show (!Nat.beq 0 0) = false by rfl, Bool.false_or, List.any_eq_true] at e2
  obtain ⟨s, hs, e3⟩ := e2
  rw [Bool.and_eq_true, Bool.and_eq_true, List.any_eq_true, nbeq, nbeq] at e3
  obtain ⟨⟨e4, e5⟩, k, hk, e6⟩ := e3
  rw [Bool.and_eq_true, nbeq] at e6
  exact ⟨s, k, List.mem_range.mp hs, List.mem_range.mp hk, e6.1, e6.2, e4, e5⟩
theorem DInv_step {g l : List Int} {d W r : Nat} {m : Int} (hd : d < 5) (hW : W < 16) (hr : r < 4) (hv : vB d W = true) (hm : m ≤ 100) (hg : DInv g d W m) (hN : NG g r l 16 0) : DInv l r (stW d W r) (m + stM d W r) := by
  refine ⟨hN.1, fun T hT => ?_⟩
  have c5 := cls_5 r (stW d W r) T
  have s1 := stM_1 d W r
  have lo : m + stM d W r + cls r (stW d W r) T ≤ at_ l T := by
    refine hN.2.1 T hT _ (by omega) (fun s hs k hk ha he => ?_)
    have e := kLow_k hd hW hr hs hk
    unfold kLow at e
    rw [ha, hv, he] at e
    simp only [Bool.not_true, Bool.false_or] at e
    have e2 := Nat.le_of_ble_eq_true e
    have := (hg.2 s hs).1
    omega
  refine ⟨lo, fun hz => ?_⟩
  obtain ⟨s, k, hs, hk, ha, he, hc, hmm⟩ := kUp_g hd hW hr hT hv hz
  have e := hN.2.2 s hs k hk ha (Or.inl hs)
  rw [he] at e
  have := (hg.2 s hs).2 hc
  omega
def hmA (row n : Int) : Nat → Int → Nat → Nat → Int → Int
  | 0, _, _, _, m => m
  | k + 1, i, d, W, m => hmA row n k (i + 1) (nd row n i).toNat (stW d W (nd row n i).toNat) (m + stM d W (nd row n i).toNat)
-- the greedy hands
theorem has_k : ∀ h : Nat, h < 16 → ∀ r : Nat, r < 4 → bAnd (bShr (h : Int) (r : Int)) 1 = (bt h r : Nat) := by decide +kernel
theorem gs_k : ∀ h : Nat, h < 16 → ∀ l : Nat, l < 4 → ∀ r : Nat, r < 4 → gsp (h : Int) (l : Int) (r : Int) = (((if 2 ≤ pc4 h then h - bt h l * 2 ^ l else h) ||| 2 ^ r : Nat) : Int) := by decide +kernel
theorem nxn_step {row n i : Int} (i0 : 0 ≤ i) (i1 : i < n) (z : Int) : nxn row n (i - 1) z = if nd row n i = z then i else nxn row n i z := by
  unfold nxn
  rw [show (n - 1 - (i - 1)).toNat = (n - 1 - i).toNat + 1 by omega, show i - 1 + 1 = i by omega]
  rfl
theorem nxn_ge {row n i : Int} (i0 : 0 ≤ i) (i1 : i < n) (z : Int) : i + 1 ≤ nxn row n i z ∧ nxn row n i z ≤ n := nnA_bd (n - 1 - i).toNat (i + 1) (by omega) (by omega)
theorem ltA_max {row n i held : Int} (i0 : 0 ≤ i) (i1 : i < n) : ∀ (m : Nat) (rod l wh : Int), 0 ≤ rod → rod + m = 4 → (∀ y : Int, 0 ≤ y → y < rod → bAnd (bShr held y) 1 = 1 → nxn row n i y ≤ wh) → (wh = -1 ∨ (0 ≤ l ∧ l < 4 ∧ bAnd (bShr held l) 1 = 1 ∧ wh = nxn row n i l)) → (∃ y : Int, 0 ≤ y ∧ y < 4 ∧ bAnd (bShr held y) 1 = 1) → bAnd (bShr held (ltA row n i held m rod l wh)) 1 = 1 ∧ ∀ y : Int, 0 ≤ y → y < 4 → bAnd (bShr held y) 1 = 1 → nxn row n i y ≤ nxn row n i (ltA row n i held m rod l wh)
  | 0, rod, l, wh, h0, h1, h2, h3, h4 => by
    unfold ltA
    rcases h3 with h3 | ⟨a, b, e, f⟩
    · obtain ⟨y, y0, y1, y2⟩ := h4
      have := h2 y y0 (by omega) y2
      have := nxn_ge (row := row) i0 i1 y
      omega
    · exact ⟨e, fun y y0 y1 y2 => by have := h2 y y0 (by omega) y2; omega⟩
  | m + 1, rod, l, wh, h0, h1, h2, h3, h4 => by
    unfold ltA
    by_cases z : bAnd (bShr held rod) 1 = 1 ∧ wh < nxn row n i rod
    · rw [if_pos z]
      refine ltA_max i0 i1 m (rod + 1) rod _ (by omega) (by omega) (fun y y0 y1 y2 => ?_) (Or.inr ⟨h0, by omega, z.1, rfl⟩) h4
      by_cases q : y = rod
      · rw [q]; exact Int.le_refl _
      · have := h2 y y0 (by omega) y2; omega
    · rw [if_neg z]
      refine ltA_max i0 i1 m (rod + 1) l wh (by omega) (by omega) (fun y y0 y1 y2 => ?_) h3 h4
      by_cases q : y = rod
      · rw [q] at y2 ⊢
        by_cases x : wh < nxn row n i rod
        · exact absurd ⟨y2, x⟩ z
        · omega
      · exact h2 y y0 (by omega) y2
theorem b1_a : ∀ d : Nat, d < 4 → ∀ r : Nat, r < 4 → (bt (2 ^ d) r = 1 ↔ r = d) ∧ (bt (2 ^ d) r = 0 ↔ r ≠ d) := by decide +kernel
theorem b1_b1 : ∀ d : Nat, d < 4 → ∀ x : Nat, x < 4 → ∀ r : Nat, r < 4 → x ≠ d → (bt (2 ^ d + 2 ^ x) r = 1 ↔ (r = d ∨ r = x)) := by decide +kernel
theorem b1_b2 : ∀ d : Nat, d < 4 → ∀ x : Nat, x < 4 → x ≠ d → pc4 (2 ^ d + 2 ^ x) = 2 ∧ 2 ^ d + 2 ^ x < 16 := by decide +kernel
theorem b1_c : ∀ d : Nat, d < 4 → ∀ x : Nat, x < 4 → ∀ r : Nat, r < 4 → (x ≠ d → ((2 ^ d + 2 ^ x - 1 * 2 ^ d) ||| 2 ^ r = if r = x then 2 ^ x else 2 ^ r + 2 ^ x) ∧ ((2 ^ d + 2 ^ x - 1 * 2 ^ x) ||| 2 ^ r = if r = d then 2 ^ d else 2 ^ r + 2 ^ d)) := by decide +kernel
theorem b1_d : ∀ d : Nat, d < 4 → ∀ r : Nat, r < 4 → pc4 (2 ^ d) = 1 ∧ 2 ^ d < 16 ∧ (r ≠ d → 2 ^ d ||| 2 ^ r = 2 ^ r + 2 ^ d) ∧ (0 ||| 2 ^ r = 2 ^ r) := by decide +kernel
theorem b1_k : ∀ d : Nat, d < 4 → ∀ x : Nat, x < 4 → ∀ r : Nat, r < 4 → (bt (2 ^ d) r = 1 ↔ r = d) ∧ (bt (2 ^ d) r = 0 ↔ r ≠ d) ∧ (x ≠ d → (bt (2 ^ d + 2 ^ x) r = 1 ↔ (r = d ∨ r = x)) ∧ pc4 (2 ^ d + 2 ^ x) = 2 ∧ 2 ^ d + 2 ^ x < 16 ∧ ((2 ^ d + 2 ^ x - 1 * 2 ^ d) ||| 2 ^ r = if r = x then 2 ^ x else 2 ^ r + 2 ^ x) ∧ ((2 ^ d + 2 ^ x - 1 * 2 ^ x) ||| 2 ^ r = if r = d then 2 ^ d else 2 ^ r + 2 ^ d)) ∧ pc4 (2 ^ d) = 1 ∧ 2 ^ d < 16 ∧ (r ≠ d → 2 ^ d ||| 2 ^ r = 2 ^ r + 2 ^ d) ∧ (0 ||| 2 ^ r = 2 ^ r) := by
  intro d hd x hx r hr
  have e1 := b1_a d hd r hr
  have e2 := b1_b1 d hd x hx r hr
  have e5 := b1_b2 d hd x hx
  have e3 := b1_c d hd x hx r hr
  have e4 := b1_d d hd r hr
  exact ⟨e1.1, e1.2, fun h => ⟨e2 h, (e5 h).1, (e5 h).2, (e3 h).1, (e3 h).2⟩, e4.1, e4.2.1, e4.2.2.1, e4.2.2.2⟩
theorem b2_k : ∀ W : Nat, W < 16 → ∀ d : Nat, d < 4 → ∀ z : Nat, z < 4 → (bt (W ||| 2 ^ d) z = 1 ↔ (bt W z = 1 ∨ z = d)) ∧ (bt W z = 0 ∨ bt W z = 1) := by decide +kernel
def GI (row n i : Int) (held d W : Nat) : Prop := (d = 4 ∧ W = 0 ∧ held = 0) ∨ (d < 4 ∧ W = 0 ∧ held = 2 ^ d) ∨ (d < 4 ∧ ∃ x : Nat, x < 4 ∧ x ≠ d ∧ bt W x = 1 ∧ held = 2 ^ d + 2 ^ x ∧ ∀ z : Nat, z < 4 → bt W z = 1 → nxn row n (i - 1) x ≤ nxn row n (i - 1) z)
theorem stM_of {d W r : Nat} : stM d W r = if r = d ∨ bt W r = 1 then 0 else 1 := by
  unfold stM
  by_cases z : r = d ∨ bt W r = 1
  · rw [if_pos z]
    have : (Nat.beq r d || Nat.beq (bt W r) 1) = true := by rw [Bool.or_eq_true, nbeq, nbeq]; exact z
    rw [this]; rfl
  · rw [if_neg z]
    have : (Nat.beq r d || Nat.beq (bt W r) 1) = false := by
      cases h : (Nat.beq r d || Nat.beq (bt W r) 1) with
      | true => rw [Bool.or_eq_true, nbeq, nbeq] at h; exact absurd h z
      | false => rfl
    rw [this]; rfl
theorem nbeq_f {a b : Nat} (h : a ≠ b) : Nat.beq a b = false := by
  cases e : Nat.beq a b with
  | true => exact absurd (nbeq.mp e) h
  | false => rfl
theorem stW_of {d W r : Nat} : stW d W r = if r = d then W else if d = 4 then 0 else if bt W r = 1 then 2 ^ d else W ||| 2 ^ d := by
  unfold stW
  by_cases z : r = d
  · rw [if_pos z, nbeq.mpr z]; rfl
  · rw [if_neg z, nbeq_f z]
    by_cases y : d = 4
    · rw [if_pos y, nbeq.mpr y]; rfl
    · rw [if_neg y, nbeq_f y]
      by_cases x : bt W r = 1
      · rw [if_pos x, nbeq.mpr x]; rfl
      · rw [if_neg x, nbeq_f x]; rfl
theorem kV_g {d W r : Nat} (hd : d < 5) (hW : W < 16) (hr : r < 4) (hv : vB d W = true) : vB r (stW d W r) = true ∧ stW d W r < 16 := by
  have e := kV_A
  unfold kVA at e
  have e2 := all_r (all_r (all_r e hd) hW) hr
  rw [hv] at e2
  simp only [Bool.not_true, Bool.false_or] at e2
  rw [Bool.and_eq_true] at e2
  exact ⟨e2.1, Nat.lt_of_lt_of_le (Nat.lt_succ_self _) (Nat.le_of_ble_eq_true e2.2)⟩
theorem vB_d {d W : Nat} (hv : vB d W = true) : bt W d = 0 := by
  unfold vB at hv
  rw [Bool.and_eq_true] at hv
  exact nbeq.mp hv.2
theorem fw_hm {row n : Int} (r0 : 0 ≤ row) (hdg : ∀ i : Int, 0 ≤ i → i < n → nd row n i < 4) : ∀ (k : Nat) (i : Int) (held d W : Nat) (m : Int), 0 ≤ i → i + k = n → d < 5 → W < 16 → vB d W = true → GI row n i held d W → fwA row n k i held m = hmA row n k i d W m
  | 0, i, held, d, W, m, i0, i1, hd, hW, hv, hG => rfl
  | k + 1, i, held, d, W, m, i0, i1, hd, hW, hv, hG => by
    have hr := hdg i i0 (by omega)
    have hr0 := (nd_bd (n := n) (i := i) r0).1
    obtain ⟨r, hrr⟩ := Int.eq_ofNat_of_zero_le hr0
    have hr4 : r < 4 := by omega
    have hv2 := kV_g hd hW hr4 hv
    have hstep := fun z : Int => nxn_step (row := row) i0 (by omega : i < n) z
    have hge := fun z : Int => nxn_ge (row := row) i0 (by omega : i < n) z
    have IH := fun (held' : Nat) (m' : Int) (hG' : GI row n (i + 1) held' r (stW d W r)) => fw_hm r0 hdg k (i + 1) held' r (stW d W r) m' (by omega) (by omega) (by omega) hv2.2 hv2.1 hG'
    have eH : hmA row n (k + 1) i d W m = hmA row n k (i + 1) r (stW d W r) (m + stM d W r) := by
      show hmA row n k (i + 1) (nd row n i).toNat (stW d W (nd row n i).toNat) (m + stM d W (nd row n i).toNat) = _
      rw [hrr, show ((r : Int)).toNat = r by omega]
    rw [eH]
    have eF1 : held < 16 → bt held r = 1 → fwA row n (k + 1) i held m = fwA row n k (i + 1) held m := by
      intro h16 hb
      have e := has_k held h16 r hr4
      conv => { lhs; unfold fwA }
      rw [hrr, e, hb, if_pos (by rfl)]
    have eF2 : held < 16 → bt held r = 0 → fwA row n (k + 1) i held m = fwA row n k (i + 1) (gsp held (lst row n i held) r) (m + 1) := by
      intro h16 hb
      have e := has_k held h16 r hr4
      conv => { lhs; unfold fwA }
      rw [hrr, e, hb, if_neg (by decide)]
    have hlt := ltA_bd (row := row) (n := n) (i := i) (held := held) 4 0 0 (-1) (by omega) (by omega) (by omega) (by omega)
    have eLs : lst row n i held = ltA row n i held 4 0 0 (-1) := rfl
    obtain ⟨L, hL⟩ := Int.eq_ofNat_of_zero_le hlt.1
    rw [← eLs] at hL hlt
    have hL4 : L < 4 := by omega
    have hvd := vB_d hv
    rcases hG with ⟨g1, g2, g3⟩ | ⟨g1, g2, g3⟩ | ⟨g1, x, x4, xd, xW, g3, g4⟩
    · subst g1; subst g2; subst g3
      have e := gs_k 0 (by omega) L hL4 r hr4
      have q := (b1_k 0 (by omega) 0 (by omega) r hr4).2.2.2.2.2.2
      have sM : stM 4 0 r = 1 := by rw [stM_of, if_neg (by intro z; rcases z with z | z; omega; (unfold bt at z; simp at z))]
      have sW : stW 4 0 r = 0 := by rw [stW_of, if_neg (by omega), if_pos rfl]
      rw [eF2 (by omega) (by unfold bt; simp), hL, e, sM]
      rw [show (if 2 ≤ pc4 0 then 0 - bt 0 L * 2 ^ L else 0) = 0 by rfl, q]
      exact IH (2 ^ r) (m + 1) (by rw [sW]; exact Or.inr (Or.inl ⟨hr4, rfl, rfl⟩))
    · subst g2; subst g3
      have q := b1_k d g1 d g1 r hr4
      by_cases z : r = d
      · subst z
        have sM : stM r 0 r = 0 := by rw [stM_of, if_pos (Or.inl rfl)]
        have sW : stW r 0 r = 0 := by rw [stW_of, if_pos rfl]
        rw [eF1 q.2.2.2.2.1 (q.1.mpr rfl), sM]
        rw [show m + ((0 : Nat) : Int) = m by omega]
        exact IH (2 ^ r) m (by rw [sW]; exact Or.inr (Or.inl ⟨hr4, rfl, rfl⟩))
      · have sM : stM d 0 r = 1 := by rw [stM_of, if_neg (by intro y; rcases y with y | y; exact z y; (unfold bt at y; simp at y))]
        have sW : stW d 0 r = 2 ^ d := by
          rw [stW_of, if_neg z, if_neg (by omega), if_neg (by unfold bt; simp)]
          exact Nat.zero_or _
        have e := gs_k (2 ^ d) q.2.2.2.2.1 L hL4 r hr4
        rw [if_neg (by rw [q.2.2.2.1]; omega), q.2.2.2.2.2.1 z] at e
        rw [eF2 q.2.2.2.2.1 (q.2.1.mpr z), hL, e, sM]
        exact IH (2 ^ r + 2 ^ d) (m + 1) (by
          rw [sW]
          refine Or.inr (Or.inr ⟨hr4, d, g1, fun y => z y.symm, (b1_k d g1 d g1 d g1).1.mpr rfl, rfl, fun y y4 hy => ?_⟩)
          rw [(b1_k d g1 d g1 y y4).1.mp hy]
          exact Int.le_refl _)
    · subst g3
      have q := b1_k d g1 x x4 r hr4
      obtain ⟨q1, q2, q3, q4, q5⟩ := q.2.2.1 xd
      have hWr := (b2_k W hW d g1 r hr4).2
      by_cases z : r = d
      · subst z
        have sM : stM r W r = 0 := by rw [stM_of, if_pos (Or.inl rfl)]
        have sW : stW r W r = W := by rw [stW_of, if_pos rfl]
        rw [eF1 q3 (q1.mpr (Or.inl rfl)), sM]
        rw [show m + ((0 : Nat) : Int) = m by omega]
        exact IH (2 ^ r + 2 ^ x) m (by
          rw [sW]
          refine Or.inr (Or.inr ⟨hr4, x, x4, xd, xW, rfl, fun y y4 hy => ?_⟩)
          have := g4 y y4 hy
          rw [hstep x, hstep y, if_neg (by omega), if_neg (fun w => by have yr : y = r := (by omega); rw [yr] at hy; omega)] at this
          rw [show i + 1 - 1 = i by omega]
          exact this)
      · by_cases w : bt W r = 1
        · have xr : x = r := by
            have := g4 r hr4 w
            rw [hstep x, hstep r, if_pos hrr] at this
            by_cases y : nd row n i = (x : Int)
            · omega
            · rw [if_neg y] at this
              have := hge x
              omega
          subst xr
          have sM : stM d W x = 0 := by rw [stM_of, if_pos (Or.inr w)]
          have sW : stW d W x = 2 ^ d := by rw [stW_of, if_neg z, if_neg (by omega), if_pos w]
          rw [eF1 q3 (q1.mpr (Or.inr rfl)), sM]
          rw [show m + ((0 : Nat) : Int) = m by omega]
          exact IH (2 ^ d + 2 ^ x) m (by
            rw [sW]
            refine Or.inr (Or.inr ⟨hr4, d, g1, fun y => z y.symm, (b1_k d g1 d g1 d g1).1.mpr rfl, Nat.add_comm _ _, fun y y4 hy => ?_⟩)
            rw [(b1_k d g1 d g1 y y4).1.mp hy]
            exact Int.le_refl _)
        · have xr : x ≠ r := fun y => w (by rw [← y]; exact xW)
          have hb0 : bt (2 ^ d + 2 ^ x) r = 0 := by
            have : bt (2 ^ d + 2 ^ x) r = 0 ∨ bt (2 ^ d + 2 ^ x) r = 1 := (b2_k (2 ^ d + 2 ^ x) q3 d g1 r hr4).2
            rcases this with y | y
            · exact y
            · have := q1.mp y
              omega
          have sM : stM d W r = 1 := by rw [stM_of, if_neg (by intro y; rcases y with y | y; exact z y; exact w y)]
          have sW : stW d W r = W ||| 2 ^ d := by rw [stW_of, if_neg z, if_neg (by omega), if_neg w]
          have hmx := ltA_max (row := row) (n := n) (held := ((2 ^ d + 2 ^ x : Nat) : Int)) i0 (by omega) 4 0 0 (-1) (by omega) (by omega) (fun y y0 y1 => by omega) (Or.inl rfl) ⟨(d : Int), by omega, by omega, by rw [has_k _ q3 d g1, ((b1_k d g1 x x4 d g1).2.2.1 xd).1.mpr (Or.inl rfl)]; rfl⟩
          rw [← eLs, hL, has_k _ q3 L hL4] at hmx
          have hLb : bt (2 ^ d + 2 ^ x) L = 1 := by have := hmx.1; omega
          have hLdx := ((b1_k d g1 x x4 L hL4).2.2.1 xd).1.mp hLb
          have hNd := hmx.2 d (by omega) (by omega) (by rw [has_k _ q3 d g1, ((b1_k d g1 x x4 d g1).2.2.1 xd).1.mpr (Or.inl rfl)]; rfl)
          have hNx := hmx.2 x (by omega) (by omega) (by rw [has_k _ q3 x x4, ((b1_k d g1 x x4 x x4).2.2.1 xd).1.mpr (Or.inr rfl)]; rfl)
          have hWz : ∀ y : Nat, y < 4 → bt W y = 1 → nxn row n i x ≤ nxn row n i y := by
            intro y y4 hy
            have := g4 y y4 hy
            rw [hstep x, hstep y, if_neg (by omega), if_neg (fun u => by have yr : y = r := (by omega); rw [yr] at hy; exact w hy)] at this
            exact this
          have e := gs_k (2 ^ d + 2 ^ x) q3 L hL4 r hr4
          rw [if_pos (by omega), hLb] at e
          rw [eF2 q3 hb0, hL, e, sM]
          rcases hLdx with y | y
          · rw [y, q4, if_neg (fun u => xr u.symm)]
            exact IH (2 ^ r + 2 ^ x) (m + 1) (by
              rw [sW]
              refine Or.inr (Or.inr ⟨hr4, x, x4, xr, ((b2_k W hW d g1 x x4).1).mpr (Or.inl xW), rfl, fun u u4 hu => ?_⟩)
              rw [show i + 1 - 1 = i by omega]
              rcases ((b2_k W hW d g1 u u4).1).mp hu with hu | hu
              · exact hWz u u4 hu
              · rw [hu, ← y]; exact hNx)
          · rw [y, q5, if_neg z]
            exact IH (2 ^ r + 2 ^ d) (m + 1) (by
              rw [sW]
              refine Or.inr (Or.inr ⟨hr4, d, g1, fun u => z u.symm, ((b2_k W hW d g1 d g1).1).mpr (Or.inr rfl), rfl, fun u u4 hu => ?_⟩)
              rw [show i + 1 - 1 = i by omega]
              rcases ((b2_k W hW d g1 u u4).1).mp hu with hu | hu
              · rw [y] at hNd
                exact Int.le_trans hNd (hWz u u4 hu)
              · rw [hu]; exact Int.le_refl _)
end C79
