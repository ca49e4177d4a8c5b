-- the fewest passes: what the counts are
section C82
variable {w : List Int}
def ed (w : List Int) (a x : Int) : Prop := 0 ≤ x ∧ ∃ way : Int, 0 ≤ way ∧ way < 10 ∧ rcv w a way = x
theorem ld_iff {c : List Int} {who rest : Int} (hr : 0 ≤ rest) : ∀ (k : Nat) (way : Int), ldB w c who rest k way = true ↔ ∃ y : Int, way ≤ y ∧ y < way + k ∧ frm c (rcv w who y) = rest
  | 0, way => by
    unfold ldB
    exact ⟨fun h => absurd h Bool.false_ne_true, fun ⟨y, h0, h1, _⟩ => by omega⟩
  | k + 1, way => by
    unfold ldB
    rw [Bool.or_eq_true, decide_eq_true_iff, ld_iff hr k (way + 1)]
    constructor
    · rintro (h | ⟨y, h0, h1, h2⟩)
      · exact ⟨way, by omega, by omega, h⟩
      · exact ⟨y, by omega, by omega, h2⟩
    · rintro ⟨y, h0, h1, h2⟩
      by_cases z : y = way
      · left; rw [← z]; exact h2
      · right; exact ⟨y, by omega, by omega, h2⟩
theorem ld_ed {c : List Int} {who rest : Int} (hw : WF w) (hr : 0 ≤ rest) : ldB w c who rest 10 0 = true ↔ ∃ x : Int, x < 80 ∧ ed w who x ∧ at_ c x = rest := by
  rw [ld_iff hr]
  constructor
  · rintro ⟨y, h0, h1, h2⟩
    have hb := rcv_bd hw (who := who) (way := y) (by omega) (by omega)
    unfold frm at h2
    by_cases z : 0 ≤ rcv w who y ∧ rcv w who y < 80
    · rw [if_pos z] at h2
      exact ⟨rcv w who y, z.2, ⟨z.1, y, h0, by omega, rfl⟩, h2⟩
    · rw [if_neg z] at h2
      omega
  · rintro ⟨x, x1, ⟨x0, y, y0, y1, hy⟩, hc⟩
    refine ⟨y, y0, by omega, ?_⟩
    rw [hy]
    unfold frm
    rw [if_pos ⟨x0, x1⟩]
    exact hc
-- one round
theorem inA_at {rd : Int} (hw : WF w) (r1 : 1 ≤ rd) : ∀ (k : Nat) (who : Int) (c : List Int), 0 ≤ who → who + k ≤ 80 → c.length = 80 → (inA w rd k who c).length = 80 ∧ (∀ j : Int, 0 ≤ j → j < 80 → (at_ c j ≠ -6 → at_ (inA w rd k who c) j = at_ c j) ∧ (at_ c j = -6 → at_ (inA w rd k who c) j = -6 ∨ (at_ (inA w rd k who c) j = rd ∧ ∃ x : Int, x < 80 ∧ ed w j x ∧ at_ c x = rd - 1))) ∧ (∀ j x : Int, who ≤ j → j < who + k → x < 80 → ed w j x → at_ c x = rd - 1 → at_ (inA w rd k who c) j ≠ -6)
  | 0, who, c, h0, h1, hl => by
    unfold inA
    exact ⟨hl, fun j j0 j1 => ⟨fun _ => rfl, fun h => Or.inl h⟩, fun j x a1 a2 => by omega⟩
  | k + 1, who, c, h0, h1, hl => by
    unfold inA
    by_cases z : at_ c who = -6 ∧ ldB w c who (rd - 1) 10 0 = true
    · rw [if_pos z]
      have hx := (ld_ed hw (by omega)).mp z.2
      have key : ∀ j : Int, 0 ≤ j → at_ (c.set who.toNat rd) j = if who = j then rd else at_ c j := fun j j0 => az_set h0 (by rw [hl]; omega) j0
      have ih := inA_at hw r1 k (who + 1) (c.set who.toNat rd) (by omega) (by omega) (by rw [List.length_set]; exact hl)
      refine ⟨ih.1, fun j j0 j1 => ⟨fun hn => ?_, fun hu => ?_⟩, fun j x a1 a2 x1 he hc => ?_⟩
      · have := (ih.2.1 j j0 j1).1 (by rw [key j j0]; split <;> omega)
        rw [this, key j j0, if_neg (fun y => by rw [← y] at hn; exact hn z.1)]
      · by_cases y : who = j
        · right
          have := (ih.2.1 j j0 j1).1 (by rw [key j j0, if_pos y]; omega)
          rw [this, key j j0, if_pos y]
          refine ⟨rfl, ?_⟩
          rw [← y]
          exact hx
        · rcases (ih.2.1 j j0 j1).2 (by rw [key j j0, if_neg y]; exact hu) with h | ⟨h, x, x1, he, hc⟩
          · exact Or.inl h
          · right
            refine ⟨h, x, x1, he, ?_⟩
            rw [key x he.1] at hc
            split at hc
            · omega
            · exact hc
      · by_cases y : who = j
        · have := (ih.2.1 j (by omega) (by omega)).1 (by rw [key j (by omega), if_pos y]; omega)
          rw [this, key j (by omega), if_pos y]
          omega
        · exact ih.2.2 j x (by omega) (by omega) x1 he (by rw [key x he.1, if_neg (fun q => by rw [← q] at hc; omega)]; exact hc)
    · rw [if_neg z]
      have ih := inA_at hw r1 k (who + 1) c (by omega) (by omega) hl
      refine ⟨ih.1, ih.2.1, fun j x a1 a2 x1 he hc => ?_⟩
      by_cases y : j = who
      · subst y
        by_cases u : at_ c j = -6
        · exact absurd ⟨u, (ld_ed hw (by omega)).mpr ⟨x, x1, he, hc⟩⟩ z
        · rw [(ih.2.1 j (by omega) (by omega)).1 u]
          exact u
      · exact ih.2.2 j x (by omega) (by omega) x1 he hc
def CI (w : List Int) (t rd : Int) (c : List Int) : Prop := c.length = 80 ∧ (∀ j : Int, 0 ≤ j → j < 80 → (at_ c j = 0 ↔ j = t)) ∧ (∀ j : Int, 0 ≤ j → j < 80 → at_ c j = -6 ∨ (0 ≤ at_ c j ∧ at_ c j ≤ rd)) ∧ (∀ j : Int, 0 ≤ j → j < 80 → 1 ≤ at_ c j → ∃ x : Int, x < 80 ∧ ed w j x ∧ at_ c x = at_ c j - 1) ∧ (∀ j x : Int, 0 ≤ j → j < 80 → x < 80 → ed w j x → 0 ≤ at_ c x → at_ c x < rd → at_ c j ≠ -6 ∧ at_ c j ≤ at_ c x + 1)
theorem CI_0 {t : Int} (t0 : 0 ≤ t) (t1 : t < 80) : CI w t 0 (pini t) := by
  refine ⟨pini_len, fun j j0 j1 => ?_, fun j j0 j1 => ?_, fun j j0 j1 h => ?_, fun j x j0 j1 x1 he h0 h1 => by omega⟩
  · rw [pini_at j0 j1]; split <;> omega
  · rw [pini_at j0 j1]; split <;> omega
  · rw [pini_at j0 j1] at h; split at h <;> omega
theorem CI_next {t rd : Int} {c : List Int} (hw : WF w) (r0 : 0 ≤ rd) (hC : CI w t rd c) : CI w t (rd + 1) (inA w (rd + 1) 80 0 c) := by
  obtain ⟨c1, c2, c3, c4, c5⟩ := hC
  obtain ⟨i1, i2, i3⟩ := inA_at hw (by omega : 1 ≤ rd + 1) 80 0 c (by omega) (by omega) c1
  have cas : ∀ j : Int, 0 ≤ j → j < 80 → (at_ c j ≠ -6 ∧ at_ (inA w (rd + 1) 80 0 c) j = at_ c j) ∨ (at_ c j = -6 ∧ (at_ (inA w (rd + 1) 80 0 c) j = -6 ∨ (at_ (inA w (rd + 1) 80 0 c) j = rd + 1 ∧ ∃ x : Int, x < 80 ∧ ed w j x ∧ at_ c x = rd))) := by
    intro j j0 j1
    by_cases z : at_ c j = -6
    · right
      refine ⟨z, ?_⟩
      have := (i2 j j0 j1).2 z
      rw [show rd + 1 - 1 = rd by omega] at this
      exact this
    · exact Or.inl ⟨z, (i2 j j0 j1).1 z⟩
  refine ⟨i1, fun j j0 j1 => ?_, fun j j0 j1 => ?_, fun j j0 j1 h => ?_, fun j x j0 j1 x1 he h0 h1 => ?_⟩
  · have := c2 j j0 j1
    rcases cas j j0 j1 with ⟨_, h⟩ | ⟨h2, h | ⟨h, _⟩⟩ <;> rw [h] <;> omega
  · have := c3 j j0 j1
    rcases cas j j0 j1 with ⟨_, h⟩ | ⟨h2, h | ⟨h, _⟩⟩ <;> rw [h] <;> omega
  · rcases cas j j0 j1 with ⟨h2, h3⟩ | ⟨h2, h3 | ⟨h3, x, x1, he, hc⟩⟩
    · rw [h3] at h ⊢
      obtain ⟨x, x1, he, hc⟩ := c4 j j0 j1 h
      refine ⟨x, x1, he, ?_⟩
      rw [(i2 x he.1 x1).1 (by omega)]
      exact hc
    · omega
    · refine ⟨x, x1, he, ?_⟩
      rw [(i2 x he.1 x1).1 (by omega), h3]
      omega
  · rcases cas x he.1 x1 with ⟨h2, h3⟩ | ⟨h2, h3 | ⟨h3, _⟩⟩
    · rw [h3] at h0 h1 ⊢
      by_cases z : at_ c x < rd
      · have q := c5 j x j0 j1 x1 he h0 z
        rw [(i2 j j0 j1).1 q.1]
        exact q
      · have hx : at_ c x = rd := by omega
        have q := i3 j x (by omega) (by omega) x1 he (by rw [show rd + 1 - 1 = rd by omega]; exact hx)
        refine ⟨q, ?_⟩
        have := c3 j j0 j1
        rcases cas j j0 j1 with ⟨_, h⟩ | ⟨_, h | ⟨h, _⟩⟩ <;> omega
    · omega
    · omega
theorem CI_ou {t : Int} (hw : WF w) : ∀ (k : Nat) (rd : Int) (c : List Int), 1 ≤ rd → CI w t (rd - 1) c → CI w t (rd - 1 + k) (ouA w k rd c)
  | 0, rd, c, h0, hC => by
    unfold ouA
    rw [show rd - 1 + ((0 : Nat) : Int) = rd - 1 by omega]
    exact hC
  | k + 1, rd, c, h0, hC => by
    unfold ouA
    have e := CI_next hw (by omega : 0 ≤ rd - 1) hC
    rw [show rd - 1 + 1 = rd by omega] at e
    have e2 := CI_ou hw k (rd + 1) (inA w rd 80 0 c) (by omega) (by rw [show rd + 1 - 1 = rd by omega]; exact e)
    rw [show rd + 1 - 1 + (k : Int) = rd - 1 + ((k + 1 : Nat) : Int) by omega] at e2
    exact e2
theorem CI_cnt {t : Int} (hw : WF w) (t0 : 0 ≤ t) (t1 : t < 80) : CI w t 10 (cnt w t) := CI_ou hw 10 1 (pini t) (by omega) (CI_0 t0 t1)
-- eleven men on a side
def gN (n : Int) : List Int → Nat
  | [] => 0
  | a :: l => (if a = -6 ∨ (0 ≤ a ∧ a < n) then 1 else 0) + gN n l
def cN (n : Int) : List Int → Nat
  | [] => 0
  | a :: l => (if a = n then 1 else 0) + cN n l
theorem gN_le (n : Int) : ∀ l : List Int, gN n l ≤ l.length
  | [] => Nat.le_refl _
  | a :: l => by
    have := gN_le n l
    unfold gN
    rw [List.length_cons]
    split <;> omega
theorem gN_s {n : Int} (h : 0 ≤ n) : ∀ l : List Int, gN (n + 1) l = gN n l + cN n l
  | [] => rfl
  | a :: l => by
    have ih := gN_s h l
    unfold gN cN
    rw [ih]
    by_cases z : a = n
    · rw [if_pos (by omega), if_neg (by omega), if_pos z]; omega
    · rw [if_neg z]
      by_cases y : a = -6 ∨ (0 ≤ a ∧ a < n)
      · rw [if_pos (by omega), if_pos y]; omega
      · rw [if_neg (by omega), if_neg y]; omega
theorem cN_pos {n : Int} : ∀ l : List Int, n ∈ l → 1 ≤ cN n l
  | [], h => absurd h List.not_mem_nil
  | a :: l, h => by
    unfold cN
    rcases List.mem_cons.mp h with z | z
    · rw [if_pos z.symm]; omega
    · have := cN_pos l z; omega
theorem gN_pos {n : Int} : ∀ l : List Int, (-6 : Int) ∈ l → 1 ≤ gN n l
  | [], h => absurd h List.not_mem_nil
  | a :: l, h => by
    unfold gN
    rcases List.mem_cons.mp h with z | z
    · rw [if_pos (Or.inl z.symm)]; omega
    · have := gN_pos (n := n) l z; omega
theorem gN_all {l : List Int} (h6 : (-6 : Int) ∈ l) : ∀ k : Nat, (∀ r : Int, 0 ≤ r → r < k → r ∈ l) → k + 1 ≤ gN k l
  | 0, _ => gN_pos l h6
  | k + 1, h => by
    have ih := gN_all h6 k (fun r r0 r1 => h r r0 (by omega))
    have e := gN_s (n := (k : Int)) (by omega) l
    have p := cN_pos l (h k (by omega) (by omega))
    rw [show ((k + 1 : Nat) : Int) = (k : Int) + 1 by omega, e]
    omega
def menL (s : Int) : List Int := if s = 0 then [0, 10, 11, 30, 31, 32, 33, 34, 50, 51, 52] else [20, 21, 22, 40, 41, 42, 43, 44, 60, 61, 70]
def mnB (j : Nat) : Bool := if 0 ≤ (j : Int) / 10 ∧ (j : Int) / 10 < 8 ∧ (j : Int) % 10 < men ((j : Int) / 10) then decide ((j : Int) ∈ menL (sid ((j : Int) / 10))) else true
theorem mnB_k : ∀ j : Nat, j < 80 → mnB j = true := by decide +kernel
theorem menL_mem {j : Int} (h : isM j) : j ∈ menL (sid (j / 10)) := by
  have h2 := h
  unfold isM at h2
  have e := mnB_k j.toNat (by omega)
  unfold mnB at e
  rw [show ((j.toNat : Nat) : Int) = j by omega, if_pos h2, decide_eq_true_iff] at e
  exact e
theorem menL_len (s : Int) : (menL s).length = 11 := by unfold menL; split <;> rfl
theorem ed_M {a x : Int} (hw : WF w) (h : ed w a x) : isM a ∧ isM x ∧ sid (x / 10) = sid (a / 10) := by
  obtain ⟨x0, way, y0, y1, hy⟩ := h
  unfold rcv at hy
  by_cases z : ¬ (0 ≤ a % 10 ∧ 0 ≤ a / 10 ∧ a / 10 < 8 ∧ a % 10 < men (a / 10))
  · rw [if_pos z] at hy; omega
  rw [if_neg z] at hy
  have z2 : 0 ≤ a % 10 ∧ 0 ≤ a / 10 ∧ a / 10 < 8 ∧ a % 10 < men (a / 10) := Decidable.not_not.mp z
  have hm := men_bd z2.2.1 z2.2.2.1
  refine ⟨z2.2, ?_⟩
  by_cases u : 2 ≤ way
  · rw [if_pos u] at hy
    have hb := ovr_bd hw z2.2.1 z2.2.2.1 z2.1 z2.2.2.2 (to := way - 2) (by omega) (by omega)
    by_cases q : 0 ≤ ovr w (a / 10) (a % 10) (way - 2) ∧ sid (ovr w (a / 10) (a % 10) (way - 2) / 10) = sid (a / 10)
    · rw [if_pos q] at hy
      rw [hy] at q hb
      unfold isM
      refine ⟨⟨by omega, by omega, ?_⟩, q.2⟩
      rcases hb with hb | hb
      · omega
      · exact hb.2.2
    · rw [if_neg q] at hy; omega
  · rw [if_neg u] at hy
    by_cases v0 : way = 0
    · rw [if_pos v0] at hy
      by_cases q : 0 ≤ a % 10 - 1
      · rw [if_pos q] at hy
        have e1 : x / 10 = a / 10 := by omega
        unfold isM
        rw [e1]
        exact ⟨⟨z2.2.1, z2.2.2.1, by omega⟩, rfl⟩
      · rw [if_neg q] at hy; omega
    · rw [if_neg v0] at hy
      by_cases q : a % 10 + 1 < men (a / 10)
      · rw [if_pos q] at hy
        have e1 : x / 10 = a / 10 := by omega
        unfold isM
        rw [e1]
        exact ⟨⟨z2.2.1, z2.2.2.1, by omega⟩, rfl⟩
      · rw [if_neg q] at hy; omega
theorem chain {t : Int} {c : List Int} (hw : WF w) (hC : CI w t 10 c) (s : Int) : ∀ (k : Nat) (x : Int), 0 ≤ x → x < 80 → isM x → sid (x / 10) = s → at_ c x = k → ∀ r : Int, 0 ≤ r → r ≤ k → r ∈ (menL s).map (fun j => at_ c j)
  | 0, x, x0, x1, hx, hs, hc, r, r0, r1 => by
    rw [List.mem_map]
    exact ⟨x, by rw [← hs]; exact menL_mem hx, by rw [hc]; omega⟩
  | k + 1, x, x0, x1, hx, hs, hc, r, r0, r1 => by
    by_cases z : r = k + 1
    · rw [List.mem_map]
      exact ⟨x, by rw [← hs]; exact menL_mem hx, by rw [hc]; omega⟩
    · obtain ⟨y, y1, he, hy⟩ := hC.2.2.2.1 x x0 x1 (by omega)
      have hM := ed_M hw he
      exact chain hw hC s k y he.1 y1 hM.2.1 (by rw [hM.2.2]; exact hs) (by omega) r r0 (by omega)
theorem cnt_last {t a x : Int} (hw : WF w) (t0 : 0 ≤ t) (t1 : t < 80) (a0 : 0 ≤ a) (a1 : a < 80) (x1 : x < 80) (he : ed w a x) (hx : at_ (cnt w t) x = 10) : at_ (cnt w t) a ≠ -6 := by
  intro z
  have hC := CI_cnt hw t0 t1
  have hM := ed_M hw he
  have h6 : (-6 : Int) ∈ (menL (sid (x / 10))).map (fun j => at_ (cnt w t) j) := by
    rw [List.mem_map]
    exact ⟨a, by rw [hM.2.2]; exact menL_mem hM.1, z⟩
  have hall := chain hw hC (sid (x / 10)) 10 x he.1 x1 hM.2.1 rfl (by rw [hx]; rfl)
  have := gN_all h6 11 (fun r r0 r1 => hall r r0 (by omega))
  have h2 := gN_le ((11 : Nat) : Int) ((menL (sid (x / 10))).map (fun j => at_ (cnt w t) j))
  rw [List.length_map, menL_len] at h2
  omega
-- the distance
def dsW (w : List Int) (t a : Int) : Int := if at_ (cnt w t) a = -6 then 1000000 else at_ (cnt w t) a
theorem ds_lip {t a x : Int} (hw : WF w) (t0 : 0 ≤ t) (t1 : t < 80) (a0 : 0 ≤ a) (a1 : a < 80) (x1 : x < 80) (he : ed w a x) : dsW w t a ≤ dsW w t x + 1 := by
  have hC := CI_cnt hw t0 t1
  have ca := hC.2.2.1 a a0 a1
  have cx := hC.2.2.1 x he.1 x1
  unfold dsW
  by_cases z : at_ (cnt w t) x = -6
  · rw [if_pos z]; split <;> omega
  · rw [if_neg z]
    by_cases y : at_ (cnt w t) x < 10
    · have q := hC.2.2.2.2 a x a0 a1 x1 he (by omega) y
      rw [if_neg q.1]
      exact q.2
    · have q := cnt_last hw t0 t1 a0 a1 x1 he (by omega)
      rw [if_neg q]
      omega
theorem ds_prev {t a : Int} (hw : WF w) (t0 : 0 ≤ t) (t1 : t < 80) (a0 : 0 ≤ a) (a1 : a < 80) (h1 : 1 ≤ dsW w t a) (h2 : dsW w t a < 1000000) : ∃ x : Int, x < 80 ∧ ed w a x ∧ dsW w t x = dsW w t a - 1 := by
  have hC := CI_cnt hw t0 t1
  have ca := hC.2.2.1 a a0 a1
  unfold dsW at h1 h2 ⊢
  by_cases z : at_ (cnt w t) a = -6
  · rw [if_pos z] at h2; omega
  · rw [if_neg z] at h1 h2 ⊢
    obtain ⟨x, x1, he, hx⟩ := hC.2.2.2.1 a a0 a1 h1
    refine ⟨x, x1, he, ?_⟩
    rw [if_neg (by omega)]
    exact hx
theorem ds_bd {t a : Int} (hw : WF w) (t0 : 0 ≤ t) (t1 : t < 80) (a0 : 0 ≤ a) (a1 : a < 80) : 0 ≤ dsW w t a ∧ (dsW w t a ≤ 10 ∨ dsW w t a = 1000000) ∧ (dsW w t a = 0 ↔ a = t) := by
  have hC := CI_cnt hw t0 t1
  have ca := hC.2.2.1 a a0 a1
  have cz := hC.2.1 a a0 a1
  unfold dsW
  split <;> omega
end C82
