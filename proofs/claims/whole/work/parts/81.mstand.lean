-- the reference: stand
section C81
variable {xs : List Int} {c : Nat → HC} {mn mc sm om ga mr ma ax : Int} {b v sv dv fa gr ng wy im kp0 : List Int} {w : List Int}
theorem cov_cong {w w' : List Int} {r p : Int} (h : at_ w r = at_ w' r) : cov w r p = cov w' r p := by unfold cov; rw [h]
theorem shA_80 {w : List Int} {p d s br : Int} (hs : s = 0 ∨ s = 1) : ∀ (k : Nat) (i : Int), shA w p d s br k i = 80 ↔ glB p d s br = true ∧ ∀ j : Int, i ≤ j → j < i + k → (0 ≤ br + j * upw s ∧ br + j * upw s < 8 ∧ sid (br + j * upw s) = 1 - s) → cov w (br + j * upw s) (bnc (p + j * d)) = -1
  | 0, i => by
    unfold shA
    have hk : 10 * kp (1 - s) ≠ 80 := by unfold kp; split <;> omega
    by_cases z : glB p d s br = true
    · rw [if_pos z]
      exact ⟨fun _ => ⟨z, fun j h0 h1 => by omega⟩, fun _ => rfl⟩
    · rw [if_neg z]
      exact ⟨fun h => absurd h hk, fun h => absurd h.1 z⟩
  | k + 1, i => by
    have ih := shA_80 (w := w) (p := p) (d := d) (br := br) hs k (i + 1)
    unfold shA
    by_cases z : (0 ≤ br + i * upw s ∧ br + i * upw s < 8 ∧ sid (br + i * upw s) = 1 - s) ∧ cov w (br + i * upw s) (bnc (p + i * d)) ≠ -1
    · rw [if_pos z]
      have hc := cov_bd w (r := br + i * upw s) (p := bnc (p + i * d)) z.1.1 z.1.2.1
      have hm := men_bd z.1.1 z.1.2.1
      refine ⟨fun h => by omega, fun h => absurd (h.2 i (Int.le_refl _) (by omega) z.1) z.2⟩
    · rw [if_neg z, ih]
      refine ⟨fun h => ⟨h.1, fun j h0 h1 hv => ?_⟩, fun h => ⟨h.1, fun j h0 h1 hv => h.2 j (by omega) (by omega) hv⟩⟩
      by_cases y : j = i
      · subst y
        by_cases x : cov w (br + j * upw s) (bnc (p + j * d)) = -1
        · exact x
        · exact absurd ⟨hv, x⟩ z
      · exact h.2 j (by omega) (by omega) hv
theorem opA_iff {w : List Int} {s d : Int} : ∀ (k : Nat) (i : Int) (P : Int → Bool), opA w s k i P d = true ↔ P d = true ∧ ∀ j : Int, i ≤ j → j < i + k → opCB s (at_ w 16 + j * upw (1 - s)) = true → pst w (at_ w 16 + j * upw (1 - s)) d = true
  | 0, i, P => by
    unfold opA
    exact ⟨fun h => ⟨h, fun j h0 h1 => by omega⟩, fun h => h.1⟩
  | k + 1, i, P => by
    unfold opA
    by_cases z : opCB s (at_ w 16 + i * upw (1 - s)) = true
    · rw [if_pos z, opA_iff k (i + 1)]
      rw [Bool.and_eq_true]
      refine ⟨fun h => ⟨h.1.1, fun j h0 h1 hv => ?_⟩, fun h => ⟨⟨h.1, h.2 i (Int.le_refl _) (by omega) z⟩, fun j h0 h1 hv => h.2 j (by omega) (by omega) hv⟩⟩
      by_cases y : j = i
      · rw [y]; exact h.1.2
      · exact h.2 j (by omega) (by omega) hv
    · rw [if_neg z, opA_iff k (i + 1)]
      refine ⟨fun h => ⟨h.1, fun j h0 h1 hv => ?_⟩, fun h => ⟨h.1, fun j h0 h1 hv => h.2 j (by omega) (by omega) hv⟩⟩
      by_cases y : j = i
      · rw [y] at hv; exact absurd hv z
      · exact h.2 j (by omega) (by omega) hv
theorem in_eq {w : List Int} {s k b d : Int} (hw : WF w) (ha : at_ w 16 ≠ -6) (hs : s = 1 - sid (at_ w 16)) : inB (setw (setw w (kp s) k) (bk s) b) d = (bkP w s b d && pst (setw (setw w (bk s) 24) (kp s) k) (kp s) d) := by
  obtain ⟨a1, a2, a3, a4⟩ := alive_bd hw ha
  have hsd := sid_bd a1 a2
  have hl := hw.1
  have hkb := kp_bd (s := s)
  have hbb := bk_bd (s := s)
  have hl1 : (setw w (kp s) k).length = 21 := by rw [sw_len]; exact hl
  have hl2 : (setw w (bk s) 24).length = 21 := by rw [sw_len]; exact hl
  have hne : kp s ≠ bk s := by unfold kp bk; split <;> omega
  have hns : sid (kp s) = s ∧ sid (bk s) = s := by
    have : s = 0 ∨ s = 1 := by omega
    rcases this with z | z <;> rw [z] <;> decide
  have hk16 : kp s ≠ at_ w 16 := fun z => by rw [z] at hns; omega
  have hb16 : bk s ≠ at_ w 16 := fun z => by rw [z] at hns; omega
  -- the row that is asked
  have V : ∀ j : Int, 0 ≤ j → at_ (setw (setw w (kp s) k) (bk s) b) j = if bk s = j then b else if kp s = j then k else at_ w j := fun j j0 => by rw [sw_at hl1 hbb.1 (by omega) j0, sw_at hl hkb.1 (by omega) j0]
  have U : ∀ j : Int, 0 ≤ j → at_ (setw (setw w (bk s) 24) (kp s) k) j = if kp s = j then k else if bk s = j then 24 else at_ w j := fun j j0 => by rw [sw_at hl2 hkb.1 (by omega) j0, sw_at hl hbb.1 (by omega) j0]
  have T : ∀ j : Int, 0 ≤ j → at_ (setw w (bk s) b) j = if bk s = j then b else at_ w j := fun j j0 => by rw [sw_at hl hbb.1 (by omega) j0]
  have V16 : at_ (setw (setw w (kp s) k) (bk s) b) 16 = at_ w 16 := by rw [V 16 (by omega), if_neg (by omega), if_neg (by omega)]
  have V17 : at_ (setw (setw w (kp s) k) (bk s) b) 17 = at_ w 17 := by rw [V 17 (by omega), if_neg (by omega), if_neg (by omega)]
  have U16 : at_ (setw (setw w (bk s) 24) (kp s) k) 16 = at_ w 16 := by rw [U 16 (by omega), if_neg (by omega), if_neg (by omega)]
  have U17 : at_ (setw (setw w (bk s) 24) (kp s) k) 17 = at_ w 17 := by rw [U 17 (by omega), if_neg (by omega), if_neg (by omega)]
  have T16 : at_ (setw w (bk s) b) 16 = at_ w 16 := by rw [T 16 (by omega), if_neg (by omega)]
  have T17 : at_ (setw w (bk s) b) 17 = at_ w 17 := by rw [T 17 (by omega), if_neg (by omega)]
  have Vb : bp0 (setw (setw w (kp s) k) (bk s) b) = bp0 w := by
    unfold bp0 pos
    rw [V16, V17, V (at_ w 16) a1, if_neg hb16, if_neg hk16]
  have Ub : bp0 (setw (setw w (bk s) 24) (kp s) k) = bp0 w := by
    unfold bp0 pos
    rw [U16, U17, U (at_ w 16) a1, if_neg hk16, if_neg hb16]
  have Tb : bp0 (setw w (bk s) b) = bp0 w := by
    unfold bp0 pos
    rw [T16, T17, T (at_ w 16) a1, if_neg hb16]
  have hup : upw (1 - s) = upw (sid (at_ w 16)) := by rw [show 1 - s = sid (at_ w 16) by omega]
  have hu : (sid (at_ w 16) = 0 ∧ upw (sid (at_ w 16)) = 1) ∨ (sid (at_ w 16) = 1 ∧ upw (sid (at_ w 16)) = -1) := by
    rcases hsd with z | z <;> rw [z]
    · exact Or.inl ⟨rfl, by decide⟩
    · exact Or.inr ⟨rfl, by decide⟩
  have hz : ∀ j : Int, 1 ≤ j → zabs (at_ w 16 + j * upw (sid (at_ w 16)) - at_ w 16) = j := by
    intro j j0
    rcases hu with ⟨_, z⟩ | ⟨_, z⟩ <;> rw [z] <;> unfold zabs <;> split <;> omega
  -- keeper and backs lie on the way
  have way : ∀ r : Int, (r = kp s ∨ r = bk s) → ∃ j : Int, 1 ≤ j ∧ j < 8 ∧ at_ w 16 + j * upw (sid (at_ w 16)) = r := by
    intro r hr
    have hr2 : (sid (at_ w 16) = 0 ∧ (r = 7 ∨ r = 6)) ∨ (sid (at_ w 16) = 1 ∧ (r = 0 ∨ r = 1)) := by
      rcases hsd with z | z
      · left
        refine ⟨z, ?_⟩
        rw [show s = 1 by omega] at hr
        rcases hr with y | y
        · left; rw [y]; decide
        · right; rw [y]; decide
      · right
        refine ⟨z, ?_⟩
        rw [show s = 0 by omega] at hr
        rcases hr with y | y
        · left; rw [y]; decide
        · right; rw [y]; decide
    have hbr : (sid (at_ w 16) = 0 → at_ w 16 < 6) ∧ (sid (at_ w 16) = 1 → 1 < at_ w 16) := by
      have h8 := rod8 a1 a2
      generalize at_ w 16 = q at h8
      rcases h8 with rfl | rfl | rfl | rfl | rfl | rfl | rfl | rfl <;> decide
    rcases hu with ⟨y, z⟩ | ⟨y, z⟩
    · have := hbr.1 y
      refine ⟨r - at_ w 16, ?_, ?_, ?_⟩ <;> (try rw [z]) <;> omega
    · have := hbr.2 y
      refine ⟨at_ w 16 - r, ?_, ?_, ?_⟩ <;> (try rw [z]) <;> omega
  have hglV : glB (bp0 (setw (setw w (kp s) k) (bk s) b)) d (sid (at_ (setw (setw w (kp s) k) (bk s) b) 16)) (at_ (setw (setw w (kp s) k) (bk s) b) 16) = gls w d := by
    unfold gls
    rw [Vb, V16]
  have eqV : inB (setw (setw w (kp s) k) (bk s) b) d = true ↔ gls w d = true ∧ ∀ j : Int, 1 ≤ j → j < 8 → (0 ≤ at_ w 16 + j * upw (sid (at_ w 16)) ∧ at_ w 16 + j * upw (sid (at_ w 16)) < 8 ∧ sid (at_ w 16 + j * upw (sid (at_ w 16))) = 1 - sid (at_ w 16)) → cov (setw (setw w (kp s) k) (bk s) b) (at_ w 16 + j * upw (sid (at_ w 16))) (bnc (bp0 w + j * d)) = -1 := by
    unfold inB shot
    rw [decide_eq_true_iff, V16, Vb, shA_80 hsd 7 1]
    exact Iff.rfl
  have eqO : opn w s d = true ↔ gls w d = true ∧ ∀ j : Int, 1 ≤ j → j < 8 → opC s (at_ w 16 + j * upw (sid (at_ w 16))) → cov w (at_ w 16 + j * upw (sid (at_ w 16))) (bnc (bp0 w + j * d)) = -1 := by
    unfold opn
    rw [opA_iff 7 1]
    refine ⟨fun h => ⟨h.1, fun j j0 j1 hv => ?_⟩, fun h => ⟨h.1, fun j j0 j1 hv => ?_⟩⟩
    · have := h.2 j j0 (by omega) (by rw [hup]; exact opCB_iff.mpr hv)
      rw [hup] at this
      unfold pst at this
      rw [decide_eq_true_iff, hz j j0] at this
      exact this
    · rw [hup] at hv ⊢
      have := h.2 j j0 (by omega) (opCB_iff.mp hv)
      unfold pst
      rw [decide_eq_true_iff, hz j j0]
      exact this
  have eqB : pst (setw w (bk s) b) (bk s) d = true ↔ ∀ j : Int, 1 ≤ j → at_ w 16 + j * upw (sid (at_ w 16)) = bk s → cov (setw (setw w (kp s) k) (bk s) b) (bk s) (bnc (bp0 w + j * d)) = -1 := by
    unfold pst
    rw [decide_eq_true_iff, T16, Tb]
    have hc : at_ (setw (setw w (kp s) k) (bk s) b) (bk s) = at_ (setw w (bk s) b) (bk s) := by rw [V _ hbb.1, T _ hbb.1, if_pos rfl, if_pos rfl]
    refine ⟨fun h j j0 hj => ?_, fun h => ?_⟩
    · have := hz j j0
      rw [hj] at this
      rw [this] at h
      rw [cov_cong hc]
      exact h
    · obtain ⟨j, j0, j1, hj⟩ := way (bk s) (Or.inr rfl)
      have := hz j j0
      rw [hj] at this
      rw [this, ← cov_cong hc]
      exact h j j0 hj
  have eqK : pst (setw (setw w (bk s) 24) (kp s) k) (kp s) d = true ↔ ∀ j : Int, 1 ≤ j → at_ w 16 + j * upw (sid (at_ w 16)) = kp s → cov (setw (setw w (kp s) k) (bk s) b) (kp s) (bnc (bp0 w + j * d)) = -1 := by
    unfold pst
    rw [decide_eq_true_iff, U16, Ub]
    have hc : at_ (setw (setw w (kp s) k) (bk s) b) (kp s) = at_ (setw (setw w (bk s) 24) (kp s) k) (kp s) := by rw [V _ hkb.1, U _ hkb.1, if_neg (fun z => hne z.symm), if_pos rfl, if_pos rfl]
    refine ⟨fun h j j0 hj => ?_, fun h => ?_⟩
    · have := hz j j0
      rw [hj] at this
      rw [this] at h
      rw [cov_cong hc]
      exact h
    · obtain ⟨j, j0, j1, hj⟩ := way (kp s) (Or.inl rfl)
      have := hz j j0
      rw [hj] at this
      rw [this, ← cov_cong hc]
      exact h j j0 hj
  rw [Bool.eq_iff_iff]
  unfold bkP
  rw [Bool.and_eq_true, Bool.and_eq_true, eqV, eqO, eqB, eqK]
  constructor
  · intro h
    refine ⟨⟨⟨h.1, fun j j0 j1 hv => ?_⟩, fun j j0 hj => ?_⟩, fun j j0 hj => ?_⟩
    · have := h.2 j j0 j1 ⟨hv.1.1, hv.1.2.1, by rw [hv.1.2.2]; exact hs⟩
      rw [cov_cong (w' := w) (by rw [V _ hv.1.1, if_neg (fun z => hv.2.2 z.symm), if_neg (fun z => hv.2.1 z.symm)])] at this
      exact this
    · have := h.2 j j0 (by rcases hu with ⟨_, z⟩ | ⟨_, z⟩ <;> rw [z] at hj <;> omega) (by rw [hj]; exact ⟨hbb.1, hbb.2, by rw [hns.2]; exact hs⟩)
      rw [hj] at this
      exact this
    · have := h.2 j j0 (by rcases hu with ⟨_, z⟩ | ⟨_, z⟩ <;> rw [z] at hj <;> omega) (by rw [hj]; exact ⟨hkb.1, hkb.2, by rw [hns.1]; exact hs⟩)
      rw [hj] at this
      exact this
  · intro h
    obtain ⟨⟨⟨h1, h2⟩, h3⟩, h4⟩ := h
    refine ⟨h1, fun j j0 j1 hv => ?_⟩
    by_cases z1 : at_ w 16 + j * upw (sid (at_ w 16)) = bk s
    · rw [z1]; exact h3 j j0 z1
    · by_cases z2 : at_ w 16 + j * upw (sid (at_ w 16)) = kp s
      · rw [z2]; exact h4 j j0 z2
      · have := h2 j j0 j1 ⟨⟨hv.1, hv.2.1, by rw [hv.2.2]; exact hs.symm⟩, z2, z1⟩
        rw [cov_cong (w' := w) (by rw [V _ hv.1, if_neg (fun z => z1 z.symm), if_neg (fun z => z2 z.symm)])]
        exact this
theorem bsN_cong {P Q : Int → Bool} (h : ∀ d, P d = Q d) : ∀ n, bsN P n = bsN Q n
  | 0 => rfl
  | n + 1 => by
    unfold bsN
    rw [bsN_cong h n, h]
theorem bkA_at {w : List Int} {s : Int} : ∀ (k : Nat) (i : Int) (pb : List Int) (j : Int), 0 ≤ i → i + k ≤ 41 → pb.length = 41 → 0 ≤ j → at_ (bkA w s k i pb) j = if i ≤ j ∧ j < i + k then ((bsN (bkP w s j) 19 : Nat) : Int) else at_ pb j
  | 0, i, pb, j, h0, h1, h2, h3 => by
    unfold bkA
    rw [if_neg (by omega)]
  | k + 1, i, pb, j, h0, h1, h2, h3 => by
    unfold bkA
    rw [bkA_at k (i + 1) _ j (by omega) (by omega) (by rw [List.length_set]; exact h2) h3, az_set h0 (by omega) h3]
    by_cases z : j = i
    · rw [if_neg (by omega), if_pos z.symm, if_pos (by omega), z]
    · by_cases y : i + 1 ≤ j ∧ j < i + 1 + k
      · rw [if_pos y, if_pos (by omega)]
      · rw [if_neg y, if_neg (fun q => z q.symm), if_neg (by omega)]
theorem own_eq {w pb : List Int} {s k j : Int} (hw : WF w) (ha : at_ w 16 ≠ -6) (hs : s = 1 - sid (at_ w 16)) (hp : PB pb) (j0 : 0 ≤ j) (j1 : j < 25) : bsm (bsN (inB (setw (setw w (kp s) k) (bk s) j)) 19) = bsm ((at_ (bkA w s 25 0 pb) j).toNat &&& bsN (pst (setw (setw w (bk s) 24) (kp s) k) (kp s)) 19) := by
  rw [bkA_at 25 0 pb j (by omega) (by omega) hp.1 j0, if_pos (by omega), show (((bsN (bkP w s j) 19 : Nat) : Int)).toNat = bsN (bkP w s j) 19 by omega, bsN_and]
  rw [bsN_cong (fun d => in_eq hw ha hs)]
-- the search begins anew, whatever was found before
theorem bsm_19 {x : Nat} (hx : x < 524288) : bsm x ≤ 19 := by
  have k8 : ∀ y, pc8 y ≤ 8 := fun y => by unfold pc8; omega
  have k3 : ∀ c : Nat, c < 8 → pc8 c ≤ 3 := by decide
  have a1 := k8 (x % 256)
  have a2 := k8 (x / 256 % 256)
  have a3 := k3 (x / 65536) (by omega)
  unfold bsm
  omega
theorem tk_first {pb : List Int} {pk : Nat} {v l1 s1 l2 s2 j : Int} (hk : pk < 524288) (h1 : 19 < l1) (h2 : 19 < l2) (k : Nat) : tkA pb pk v (k + 1) j l1 s1 = tkA pb pk v (k + 1) j l2 s2 := by
  have hb : bsm ((at_ pb j).toNat &&& pk) ≤ 19 := bsm_19 (Nat.lt_of_le_of_lt Nat.and_le_right hk)
  unfold tkA
  rw [if_pos (by omega), if_pos (by omega)]
theorem kp_first {wb pb : List Int} {s v l1 s1 l2 s2 : Int} (h1 : 19 < l1) (h2 : 19 < l2) (k : Nat) : kpA wb pb s (k + 1) v l1 s1 = kpA wb pb s (k + 1) v l2 s2 := by
  unfold kpA
  rw [tk_first (l2 := l2) (s2 := s2) (bsN19 _) h1 h2 24]
def EV (xs : List Int) (pc : Nat) (ls : List MV) (c : Nat → HC) (mn mc om ga mr ma ax : Int) (b sv dv fa gr ng wy im kp0 : List Int) (sm : Int) (v : List Int) (r : Option MV) : Prop := ∃ (sm' : Int) (v' : List Int), v'.length = 21 ∧ Rn xs m_M_stand pc ls [] (z40 c (rf mn mc sm om ga mr ma ax b v sv dv fa gr ng wy im kp0)) r (z40 c (rf mn mc sm' om ga mr ma ax b v' sv dv fa gr ng wy im kp0))
def SV (w : List Int) (s : Int) (tw : List Int) : Prop := tw.length = 21 ∧ ∀ x y : Int, setw (setw tw (kp s) x) (bk s) y = setw (setw w (kp s) x) (bk s) y
theorem SV_next {w tw : List Int} {s x0 y0 : Int} (hl : w.length = 21) : SV w s (setw (setw w (kp s) x0) (bk s) y0) := by
  refine ⟨by rw [sw_len, sw_len]; exact hl, fun x y => ?_⟩
  have hkb := kp_bd (s := s)
  have hbb := bk_bd (s := s)
  have hne : kp s ≠ bk s := by unfold kp bk; split <;> omega
  rw [setw_comm (v := w) hkb.1 hbb.1 hne, setw_setw, setw_comm (v := setw w (bk s) y0) hkb.1 hbb.1 hne, setw_setw, setw_comm (v := w) hbb.1 hkb.1 (fun z => hne z.symm), ← setw_comm (v := w) hbb.1 hkb.1 (fun z => hne z.symm), setw_comm (v := w) hbb.1 hkb.1 (fun z => hne z.symm)]
theorem tkA_le {pb : List Int} {pk : Nat} {v : Int} : ∀ (k : Nat) (j li sl : Int), 0 ≤ li → li ≤ 1000000 → 0 ≤ (tkA pb pk v k j li sl).1 ∧ (tkA pb pk v k j li sl).1 ≤ 1000000
  | 0, _, li, sl, h0, h1 => ⟨h0, h1⟩
  | k + 1, j, li, sl, h0, h1 => by
    have := bsm_bd ((at_ pb j).toNat &&& pk)
    unfold tkA
    split
    · exact tkA_le k (j + 1) _ _ (by omega) (by omega)
    · exact tkA_le k (j + 1) _ _ h0 h1
theorem kpA_le {wb pb : List Int} {s : Int} : ∀ (k : Nat) (v li sl : Int), 0 ≤ li → li ≤ 1000000 → 0 ≤ (kpA wb pb s k v li sl).1 ∧ (kpA wb pb s k v li sl).1 ≤ 1000000
  | 0, _, li, sl, h0, h1 => ⟨h0, h1⟩
  | k + 1, v, li, sl, h0, h1 => by
    have q := tkA_le (pb := pb) (pk := bsN (pst (setw wb (kp s) v) (kp s)) 19) (v := v) 25 0 li sl h0 h1
    unfold kpA
    exact kpA_le k (v + 1) _ _ q.1 q.2
theorem lp_M_in2 {s what k : Int} {pb : List Int} {rt : Option MV} (hw : WF w) (ha : at_ w 16 ≠ -6) (hs : s = 1 - sid (at_ w 16)) (hp : PB pb) (k0 : 0 ≤ k) (k1 : k ≤ 40) : ∀ (f : Nat) (j li sl sm : Int) (tw : List Int) (x8 : MV), 0 ≤ j → j + f = 25 → 0 ≤ li → li ≤ 1000000 → SV w s tw → (∀ (j' sm' : Int) (tw' : List Int) (x : MV), SV w s tw' → EV xs 165 [vR 40, vI what, vI (kp s), vI (bk s), vI (tkA (bkA w s 25 0 pb) (bsN (pst (setw (setw w (bk s) 24) (kp s) k) (kp s)) 19) k f j li sl).1, vI (tkA (bkA w s 25 0 pb) (bsN (pst (setw (setw w (bk s) 24) (kp s) k) (kp s)) 19) k f j li sl).2, vI k, vI j', x] c mn mc om ga mr ma ax b sv dv fa gr ng wy im kp0 sm' tw' rt) → EV xs 89 [vR 40, vI what, vI (kp s), vI (bk s), vI li, vI sl, vI k, vI j, x8] c mn mc om ga mr ma ax b sv dv fa gr ng wy im kp0 sm tw rt := by
  obtain ⟨a1, a2, a3, a4⟩ := alive_bd hw ha
  have hsd := sid_bd a1 a2
  have hkb := kp_bd (s := s)
  have hbb := bk_bd (s := s)
  intro f
  induction f with
  | zero =>
    intro j li sl sm tw x8 j0 j1 l0 l1 hS e
    obtain ⟨sm', v', hh, h2⟩ := e j sm tw x8 hS
    refine ⟨sm', v', hh, ?_⟩
    refine r_iload cd_M_stand_89 rfl ?_
    refine r_bipush cd_M_stand_91 ?_
    refine r_icmp_ge cd_M_stand_93 ⟨by omega, by omega⟩ ⟨by decide, by decide⟩ (fun c_93 => ?_) (fun c_93 => ?_)
    · skip
      exact h2
    · skip
      omega
  | succ f ih =>
    intro j li sl sm tw x8 j0 j1 l0 l1 hS e
    have ll : ((tw.length : Nat) : Int) = 21 := by rw [hS.1]; rfl
    have hsk : sid (kp s) = s ∧ sid (bk s) = s := by
      have : s = 0 ∨ s = 1 := by omega
      rcases this with z | z <;> rw [z] <;> decide
    have hwd1 : wid (kp s) = 40 := wid_kp
    have hwd2 : wid (bk s) = 24 := wid_bk
    have hV : WF (setw (setw w (kp s) k) (bk s) j) := wf_slide (wf_slide hw hkb.1 hkb.2 k0 (by omega)) hbb.1 hbb.2 j0 (by omega)
    have hVa : at_ (setw (setw w (kp s) k) (bk s) j) 16 ≠ -6 := by
      rw [sw_at (by rw [sw_len]; exact hw.1) hbb.1 (by omega) (by omega), if_neg (by omega), sw_at hw.1 hkb.1 (by omega) (by omega), if_neg (by omega)]
      exact ha
    have ho := own_eq (k := k) hw ha hs hp j0 (by omega : j < 25)
    have hb19 := bsm_19 (bsN19 (inB (setw (setw w (kp s) k) (bk s) j)))
    obtain ⟨sm1, hA⟩ := sp_M_allIn (xs := xs) (c := c) (mn := mn) (mc := mc) (sm := sm) (om := om) (ga := ga) (mr := mr) (ma := ma) (ax := ax) (b := b) (v := setw (setw w (kp s) k) (bk s) j) (sv := sv) (dv := dv) (fa := fa) (gr := gr) (ng := ng) (wy := wy) (im := im) (kp := kp0) hV hVa
    have hSn := SV_next (w := w) (tw := tw) (s := s) (x0 := k) (y0 := j) hw.1
    have hB := sp_M_bits (xs := xs) (h := (z40 c (rf mn mc sm1 om ga mr ma ax b (setw (setw w (kp s) k) (bk s) j) sv dv fa gr ng wy im kp0))) (bsN19 (inB (setw (setw w (kp s) k) (bk s) j)))
    rw [ho] at hB hb19
    have eset := hS.2 k j
    generalize hP : bsN (pst (setw (setw w (bk s) 24) (kp s) k) (kp s)) 19 = pk at *
    generalize hQ : bkA w s 25 0 pb = pbb at *
    have t121 : EV xs 121 [vR 40, vI what, vI (kp s), vI (bk s), vI li, vI sl, vI k, vI j, vI (bsm ((at_ pbb j).toNat &&& pk) : Nat)] c mn mc om ga mr ma ax b sv dv fa gr ng wy im kp0 sm1 (setw (setw w (kp s) k) (bk s) j) rt := by
      by_cases z : ((bsm ((at_ pbb j).toNat &&& pk) : Nat) : Int) < li
      · have e0 : tkA pbb pk k (f + 1) j li sl = tkA pbb pk k f (j + 1) (bsm ((at_ pbb j).toNat &&& pk) : Nat) (100 * k + j) := by (conv => lhs; unfold tkA); rw [if_pos z]
        rw [e0] at e
        obtain ⟨sm', v', hh, h2⟩ := ih (j + 1) (bsm ((at_ pbb j).toNat &&& pk) : Nat) (100 * k + j) sm1 _ (vI (bsm ((at_ pbb j).toNat &&& pk) : Nat)) (by omega) (by omega) (by omega) (by omega) hSn e
        refine ⟨sm', v', hh, ?_⟩
        refine r_iload cd_M_stand_121 rfl ?_
        refine r_iload cd_M_stand_123 rfl ?_
        refine r_icmp_ge cd_M_stand_125 ⟨by omega, by omega⟩ ⟨by omega, by omega⟩ (fun c_125 => ?_) (fun c_125 => ?_)
        · skip
          omega
        · skip
          refine r_bipush cd_M_stand_128 ?_
          refine r_iload cd_M_stand_130 rfl ?_
          refine r_imul cd_M_stand_132 ?_
          refine r_iload cd_M_stand_133 rfl ?_
          refine r_iadd cd_M_stand_135 ?_
          refine r_goto cd_M_stand_136 ?_
          refine r_istore9_5 cd_M_stand_141 rfl ?_
          refine r_iload cd_M_stand_143 rfl ?_
          refine r_iload cd_M_stand_145 rfl ?_
          refine r_icmp_ge cd_M_stand_147 ⟨by omega, by omega⟩ ⟨by omega, by omega⟩ (fun c_147 => ?_) (fun c_147 => ?_)
          · skip
            omega
          · skip
            refine r_iload cd_M_stand_150 rfl ?_
            refine r_goto cd_M_stand_152 ?_
            refine r_istore9_4 cd_M_stand_157 rfl ?_
            refine r_iinc9_7 cd_M_stand_159 rfl ?_
            refine r_goto cd_M_stand_162 ?_
            exact h2
      · have e0 : tkA pbb pk k (f + 1) j li sl = tkA pbb pk k f (j + 1) li sl := by (conv => lhs; unfold tkA); rw [if_neg z]
        rw [e0] at e
        obtain ⟨sm', v', hh, h2⟩ := ih (j + 1) li sl sm1 _ (vI (bsm ((at_ pbb j).toNat &&& pk) : Nat)) (by omega) (by omega) l0 l1 hSn e
        refine ⟨sm', v', hh, ?_⟩
        refine r_iload cd_M_stand_121 rfl ?_
        refine r_iload cd_M_stand_123 rfl ?_
        refine r_icmp_ge cd_M_stand_125 ⟨by omega, by omega⟩ ⟨by omega, by omega⟩ (fun c_125 => ?_) (fun c_125 => ?_)
        · skip
          refine r_iload cd_M_stand_139 rfl ?_
          refine r_istore9_5 cd_M_stand_141 rfl ?_
          refine r_iload cd_M_stand_143 rfl ?_
          refine r_iload cd_M_stand_145 rfl ?_
          refine r_icmp_ge cd_M_stand_147 ⟨by omega, by omega⟩ ⟨by omega, by omega⟩ (fun c_147 => ?_) (fun c_147 => ?_)
          · skip
            refine r_iload cd_M_stand_155 rfl ?_
            refine r_istore9_4 cd_M_stand_157 rfl ?_
            refine r_iinc9_7 cd_M_stand_159 rfl ?_
            refine r_goto cd_M_stand_162 ?_
            exact h2
          · skip
            omega
        · skip
          omega
    obtain ⟨sm', v', hh, h2⟩ := t121
    refine ⟨sm', v', hh, ?_⟩
    have hset : (tw.set (kp s).toNat k).set (bk s).toNat j = setw (setw w (kp s) k) (bk s) j := eset
    have t112 : Rn xs m_M_stand 112 [vR 40, vI what, vI (kp s), vI (bk s), vI li, vI sl, vI k, vI j, x8] [] (z40 c (rf mn mc sm om ga mr ma ax b (setw (setw w (kp s) k) (bk s) j) sv dv fa gr ng wy im kp0)) rt (z40 c (rf mn mc sm' om ga mr ma ax b v' sv dv fa gr ng wy im kp0)) := by
      refine r_aload_n cd_M_stand_112 rfl ?_
      refine r_vv0 cd_M_stand_113 rfl ck_M_stand_M_allIn (Nat.le_of_ble_eq_true rfl) zr_O rfl hA ?_
      refine r_cv1 cd_M_stand_116 rfl ck_M_stand_M_bits rfl (Nat.le_of_ble_eq_true rfl) hB ?_
      skip
      refine r_istore9_8 cd_M_stand_119 rfl ?_
      exact h2
    refine r_iload cd_M_stand_89 rfl ?_
    refine r_bipush cd_M_stand_91 ?_
    refine r_icmp_ge cd_M_stand_93 ⟨by omega, by omega⟩ ⟨by decide, by decide⟩ (fun c_93 => ?_) (fun c_93 => ?_)
    · skip
      omega
    · skip
      refine r_aload_n cd_M_stand_96 rfl ?_
      refine r_getfield cd_M_stand_97 zr_O rfl ?_
      refine r_iload_n cd_M_stand_100 rfl ?_
      refine r_iload cd_M_stand_101 rfl ?_
      refine r_iastore (N := 21) cd_M_stand_103 zr_N ll (by omega) (by omega) (by omega) ?_
      refine r_aload_n cd_M_stand_104 rfl ?_
      refine r_getfield cd_M_stand_105 (gs_ne (by omega) zr_O) rfl ?_
      refine r_iload_n cd_M_stand_108 rfl ?_
      refine r_iload cd_M_stand_109 rfl ?_
      refine r_iastore (N := 21) cd_M_stand_111 (gs_eq zr_N) (lset ll) (by omega) (by omega) (by omega) ?_
      (rw [← hset] at t112; simp only [List.set_set] at t112 ⊢; exact t112)
theorem lp_M_in1 {s what : Int} {pb : List Int} {rt : Option MV} (hw : WF w) (ha : at_ w 16 ≠ -6) (hs : s = 1 - sid (at_ w 16)) (hp : PB pb) : ∀ (f : Nat) (k li sl sm : Int) (tw : List Int) (x7 x8 : MV), 0 ≤ k → k + f = 41 → 0 ≤ li → li ≤ 1000000 → SV w s tw → (∀ (k' sm' : Int) (tw' : List Int) (x y : MV), SV w s tw' → EV xs 171 [vR 40, vI what, vI (kp s), vI (bk s), vI (kpA (setw w (bk s) 24) (bkA w s 25 0 pb) s f k li sl).1, vI (kpA (setw w (bk s) 24) (bkA w s 25 0 pb) s f k li sl).2, vI k', x, y] c mn mc om ga mr ma ax b sv dv fa gr ng wy im kp0 sm' tw' rt) → EV xs 79 [vR 40, vI what, vI (kp s), vI (bk s), vI li, vI sl, vI k, x7, x8] c mn mc om ga mr ma ax b sv dv fa gr ng wy im kp0 sm tw rt := by
  intro f
  induction f with
  | zero =>
    intro k li sl sm tw x7 x8 k0 k1 l0 l1 hS e
    obtain ⟨sm', v', hh, h2⟩ := e k sm tw x7 x8 hS
    refine ⟨sm', v', hh, ?_⟩
    refine r_iload cd_M_stand_79 rfl ?_
    refine r_bipush cd_M_stand_81 ?_
    refine r_icmp_ge cd_M_stand_83 ⟨by omega, by omega⟩ ⟨by decide, by decide⟩ (fun c_83 => ?_) (fun c_83 => ?_)
    · skip
      exact h2
    · skip
      omega
  | succ f ih =>
    intro k li sl sm tw x7 x8 k0 k1 l0 l1 hS e
    have hbd := tkA_le (pb := bkA w s 25 0 pb) (pk := bsN (pst (setw (setw w (bk s) 24) (kp s) k) (kp s)) 19) (v := k) 25 0 li sl l0 l1
    obtain ⟨sm', v', hh, h2⟩ := lp_M_in2 (xs := xs) (c := c) (mn := mn) (mc := mc) (om := om) (ga := ga) (mr := mr) (ma := ma) (ax := ax) (b := b) (sv := sv) (dv := dv) (fa := fa) (gr := gr) (ng := ng) (wy := wy) (im := im) (kp0 := kp0) (what := what) (rt := rt) hw ha hs hp k0 (by omega) 25 0 li sl sm tw x8 (by omega) (by omega) l0 l1 hS (fun j' sm1 tw' x hS' => by
      obtain ⟨sm', v', hh, h2⟩ := ih (k + 1) _ _ sm1 tw' (vI j') x (by omega) (by omega) hbd.1 hbd.2 hS' e
      refine ⟨sm', v', hh, ?_⟩
      refine r_iinc9_6 cd_M_stand_165 rfl ?_
      refine r_goto cd_M_stand_168 ?_
      exact h2
      )
    refine ⟨sm', v', hh, ?_⟩
    refine r_iload cd_M_stand_79 rfl ?_
    refine r_bipush cd_M_stand_81 ?_
    refine r_icmp_ge cd_M_stand_83 ⟨by omega, by omega⟩ ⟨by decide, by decide⟩ (fun c_83 => ?_) (fun c_83 => ?_)
    · skip
      omega
    · skip
      refine r_iconst cd_M_stand_86 ?_
      refine r_istore9_7 cd_M_stand_87 rfl ?_
      exact h2
theorem sp_M_stand {what sl : Int} {pb : List Int} (hJ : JL v fa gr ng wy) (hw : WF b) (hp : PB pb) (hx : inR what) : MSp xs m_M_stand [vR 40, vI what] (z40 c (rf mn mc sm om ga mr ma ax b v sv dv fa gr ng wy im kp0)) (vI (sdA b what pb sl)) c mn mc b sv dv im kp0 := by
  obtain ⟨x1, x2⟩ := id hx
  have hbl := hw.2.2.2.1
  have ll : ((b.length : Nat) : Int) = 21 := by rw [hw.1]; rfl
  have sA : Sp xs m_M_asNow [vR 40] (z40 c (rf mn mc sm om ga mr ma ax b v sv dv fa gr ng wy im kp0)) none (z40 c (rf mn mc sm om (-6) mr ma ax b b sv dv fa gr ng wy im kp0)) := sp_asN hw.1 hJ.1
  by_cases z0 : what = 0 ∨ what = 1
  · by_cases z1 : at_ b 16 = -6
    · refine ⟨_, mj (sm := sm) (om := om) (ga := -6) (mr := mr) (ma := ma) (ax := ax) (jl_v hJ hw.1), ?_⟩
      unfold sdA
      rw [if_pos z0, if_pos z1]
      refine en_M_stand ?_
      refine r_iload_n cd_M_stand_0 rfl ?_
      refine r_iconst cd_M_stand_1 ?_
      refine r_iconst cd_M_stand_2 ?_
      refine r_cv3 cd_M_stand_3 rfl ck_M_stand_M_in rfl (Nat.le_of_ble_eq_true rfl) (sp_M_in hx ⟨by decide, by decide⟩ ⟨by decide, by decide⟩) ?_
      refine r_ifne_p cd_M_stand_6 (fun c_6 => ?_) (fun c_6 => ?_)
      · skip
        refine r_aload_n cd_M_stand_12 rfl ?_
        refine r_vz0 cd_M_stand_13 rfl ck_M_stand_M_asNow (Nat.le_of_ble_eq_true rfl) zr_O rfl sA ?_
        refine r_aload_n cd_M_stand_16 rfl ?_
        refine r_getfield cd_M_stand_17 zr_O rfl ?_
        refine r_bipush cd_M_stand_20 ?_
        refine r_iaload (N := 21) cd_M_stand_22 zr_N ll (by omega) (by omega) (by omega) ?_
        refine r_if_ge cd_M_stand_23 ⟨by omega, by omega⟩ (fun c_23 => ?_) (fun c_23 => ?_)
        · skip
          omega
        · skip
          refine r_bipush cd_M_stand_26 ?_
          exact r_iret cd_M_stand_28 rt_M_stand (by rfl) (by rfl)
      · skip
        refine r_bipush cd_M_stand_9 ?_
        omega
    · obtain ⟨a1, a2, a3, a4⟩ := alive_bd hw z1
      have hsd := sid_bd a1 a2
      unfold sdA
      rw [if_pos z0, if_neg z1]
      generalize hs : 1 - sid (at_ b 16) = s at *
      rw [kp_first (l2 := 1000000) (s2 := 0) (by omega) (by omega) 40]
      have hkp : (sid (at_ b 16) = 0 → kp s = 7) ∧ (sid (at_ b 16) ≠ 0 → kp s = 0) := by
        constructor
        · intro y; rw [← hs, y]; decide
        · intro y; rw [← hs, show sid (at_ b 16) = 1 by omega]; decide
      have hbk : (sid (at_ b 16) = 0 → bk s = 6) ∧ (sid (at_ b 16) ≠ 0 → bk s = 1) := by
        constructor
        · intro y; rw [← hs, y]; decide
        · intro y; rw [← hs, show sid (at_ b 16) = 1 by omega]; decide
      have hS0 : SV b s b := ⟨hw.1, fun x y => rfl⟩
      have hkb : -1000000 ≤ (kpA (setw b (bk s) 24) (bkA b s 25 0 pb) s 41 0 1000000 0).1 := by
        have := kpA_le (wb := setw b (bk s) 24) (pb := bkA b s 25 0 pb) (s := s) 41 0 1000000 0 (by omega) (by omega)
        omega
      obtain ⟨sm', v', hh, h2⟩ := lp_M_in1 (xs := xs) (c := c) (mn := mn) (mc := mc) (om := om) (ga := -6) (mr := mr) (ma := ma) (ax := ax) (b := b) (sv := sv) (dv := dv) (fa := fa) (gr := gr) (ng := ng) (wy := wy) (im := im) (kp0 := kp0) (what := what) (rt := some (vI (if what = 0 then (kpA (setw b (bk s) 24) (bkA b s 25 0 pb) s 41 0 1000000 0).1 else (kpA (setw b (bk s) 24) (bkA b s 25 0 pb) s 41 0 1000000 0).2))) hw z1 hs.symm hp 41 0 1000000 0 sm b vU vU (by omega) (by omega) (by omega) (by omega) hS0 (fun k' sm2 tw' x y hS2 => by
        refine ⟨sm2, tw', hS2.1, ?_⟩
        refine r_iload_n cd_M_stand_171 rfl ?_
        refine r_if_ne cd_M_stand_172 ⟨by omega, by omega⟩ (fun c_172 => ?_) (fun c_172 => ?_)
        · skip
          refine r_iload cd_M_stand_180 rfl ?_
          exact r_iret cd_M_stand_182 rt_M_stand (by first | (rw [if_pos c_172]; done) | (rw [if_neg c_172]; done)) (by rfl)
        · skip
          refine r_iload cd_M_stand_175 rfl ?_
          refine r_goto cd_M_stand_177 ?_
          exact r_iret cd_M_stand_182 rt_M_stand (by first | (rw [if_pos c_172]; done) | (rw [if_neg c_172]; done)) (by rfl)
        )
      refine ⟨_, mj (sm := sm') (om := om) (ga := -6) (mr := mr) (ma := ma) (ax := ax) (jl_v hJ hh), ?_⟩
      have t68 : ∀ x y : Int, x = kp s → y = bk s → Rn xs m_M_stand 68 [vR 40, vI what, vI x, vU, vU, vU, vU, vU, vU] [vI y] (z40 c (rf mn mc sm om (-6) mr ma ax b b sv dv fa gr ng wy im kp0)) (some (vI (if what = 0 then (kpA (setw b (bk s) 24) (bkA b s 25 0 pb) s 41 0 1000000 0).1 else (kpA (setw b (bk s) 24) (bkA b s 25 0 pb) s 41 0 1000000 0).2))) (z40 c (rf mn mc sm' om (-6) mr ma ax b v' sv dv fa gr ng wy im kp0)) := by
        intro x y hx1 hy1
        subst hx1; subst hy1
        refine r_istoren9_3 cd_M_stand_68 rfl ?_
        refine r_ldc cd_M_stand_69 ?_
        refine r_istore9_4 cd_M_stand_71 rfl ?_
        refine r_iconst cd_M_stand_73 ?_
        refine r_istore9_5 cd_M_stand_74 rfl ?_
        refine r_iconst cd_M_stand_76 ?_
        refine r_istore9_6 cd_M_stand_77 rfl ?_
        exact h2
      refine en_M_stand ?_
      refine r_iload_n cd_M_stand_0 rfl ?_
      refine r_iconst cd_M_stand_1 ?_
      refine r_iconst cd_M_stand_2 ?_
      refine r_cv3 cd_M_stand_3 rfl ck_M_stand_M_in rfl (Nat.le_of_ble_eq_true rfl) (sp_M_in hx ⟨by decide, by decide⟩ ⟨by decide, by decide⟩) ?_
      refine r_ifne_p cd_M_stand_6 (fun c_6 => ?_) (fun c_6 => ?_)
      · skip
        refine r_aload_n cd_M_stand_12 rfl ?_
        refine r_vz0 cd_M_stand_13 rfl ck_M_stand_M_asNow (Nat.le_of_ble_eq_true rfl) zr_O rfl sA ?_
        refine r_aload_n cd_M_stand_16 rfl ?_
        refine r_getfield cd_M_stand_17 zr_O rfl ?_
        refine r_bipush cd_M_stand_20 ?_
        refine r_iaload (N := 21) cd_M_stand_22 zr_N ll (by omega) (by omega) (by omega) ?_
        refine r_if_ge cd_M_stand_23 ⟨by omega, by omega⟩ (fun c_23 => ?_) (fun c_23 => ?_)
        · skip
          refine r_aload_n cd_M_stand_29 rfl ?_
          refine r_getfield cd_M_stand_30 zr_O rfl ?_
          refine r_bipush cd_M_stand_33 ?_
          refine r_iaload (N := 21) cd_M_stand_35 zr_N ll (by omega) (by omega) (by omega) ?_
          refine r_cv1 cd_M_stand_36 rfl ck_M_stand_M_sideOf rfl (Nat.le_of_ble_eq_true rfl) (sp_M_sideOf a1 a2) ?_
          refine r_if_ne cd_M_stand_39 ⟨by omega, by omega⟩ (fun c_39 => ?_) (fun c_39 => ?_)
          · skip
            refine r_iconst cd_M_stand_47 ?_
            refine r_istoren9_2 cd_M_stand_48 rfl ?_
            refine r_aload_n cd_M_stand_49 rfl ?_
            refine r_getfield cd_M_stand_50 zr_O rfl ?_
            refine r_bipush cd_M_stand_53 ?_
            refine r_iaload (N := 21) cd_M_stand_55 zr_N ll (by omega) (by omega) (by omega) ?_
            refine r_cv1 cd_M_stand_56 rfl ck_M_stand_M_sideOf rfl (Nat.le_of_ble_eq_true rfl) (sp_M_sideOf a1 a2) ?_
            refine r_if_ne cd_M_stand_59 ⟨by omega, by omega⟩ (fun c_59 => ?_) (fun c_59 => ?_)
            · skip
              refine r_iconst cd_M_stand_67 ?_
              first | (refine t68 _ _ ?_ ?_ <;> omega)
            · skip
              refine r_bipush cd_M_stand_62 ?_
              refine r_goto cd_M_stand_64 ?_
              first | (refine t68 _ _ ?_ ?_ <;> omega)
          · skip
            refine r_bipush cd_M_stand_42 ?_
            refine r_goto cd_M_stand_44 ?_
            refine r_istoren9_2 cd_M_stand_48 rfl ?_
            refine r_aload_n cd_M_stand_49 rfl ?_
            refine r_getfield cd_M_stand_50 zr_O rfl ?_
            refine r_bipush cd_M_stand_53 ?_
            refine r_iaload (N := 21) cd_M_stand_55 zr_N ll (by omega) (by omega) (by omega) ?_
            refine r_cv1 cd_M_stand_56 rfl ck_M_stand_M_sideOf rfl (Nat.le_of_ble_eq_true rfl) (sp_M_sideOf a1 a2) ?_
            refine r_if_ne cd_M_stand_59 ⟨by omega, by omega⟩ (fun c_59 => ?_) (fun c_59 => ?_)
            · skip
              refine r_iconst cd_M_stand_67 ?_
              first | (refine t68 _ _ ?_ ?_ <;> omega)
            · skip
              refine r_bipush cd_M_stand_62 ?_
              refine r_goto cd_M_stand_64 ?_
              first | (refine t68 _ _ ?_ ?_ <;> omega)
        · skip
          omega
      · skip
        refine r_bipush cd_M_stand_9 ?_
        omega
  · refine ⟨_, mj (sm := sm) (om := om) (ga := ga) (mr := mr) (ma := ma) (ax := ax) hJ, ?_⟩
    unfold sdA
    rw [if_neg z0]
    refine en_M_stand ?_
    refine r_iload_n cd_M_stand_0 rfl ?_
    refine r_iconst cd_M_stand_1 ?_
    refine r_iconst cd_M_stand_2 ?_
    refine r_cv3 cd_M_stand_3 rfl ck_M_stand_M_in rfl (Nat.le_of_ble_eq_true rfl) (sp_M_in hx ⟨by decide, by decide⟩ ⟨by decide, by decide⟩) ?_
    refine r_ifne_p cd_M_stand_6 (fun c_6 => ?_) (fun c_6 => ?_)
    · skip
      omega
    · skip
      refine r_bipush cd_M_stand_9 ?_
      exact r_iret cd_M_stand_11 rt_M_stand (by rfl) (by rfl)
end C81
