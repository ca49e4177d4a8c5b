-- the table of the document, in whole numbers
def men (r : Int) : Int := at_ [1, 2, 3, 5, 5, 3, 2, 1] r
def gap (r : Int) : Int := at_ [0, 16, 12, 8, 8, 12, 16, 0] r
def sid (r : Int) : Int := at_ [0, 0, 1, 0, 1, 0, 1, 1] r
def wid (r : Int) : Int := 40 - (men r - 1) * gap r
def pos (w : List Int) (r m : Int) : Int := at_ w r + m * gap r
theorem rod8 {r : Int} (h0 : 0 ≤ r) (h1 : r < 8) : r = 0 ∨ r = 1 ∨ r = 2 ∨ r = 3 ∨ r = 4 ∨ r = 5 ∨ r = 6 ∨ r = 7 := by omega
theorem men_bd {r : Int} (h0 : 0 ≤ r) (h1 : r < 8) : 1 ≤ men r ∧ men r ≤ 5 := by rcases rod8 h0 h1 with rfl | rfl | rfl | rfl | rfl | rfl | rfl | rfl <;> decide
theorem gap_bd {r : Int} (h0 : 0 ≤ r) (h1 : r < 8) : 0 ≤ gap r ∧ gap r ≤ 16 := by rcases rod8 h0 h1 with rfl | rfl | rfl | rfl | rfl | rfl | rfl | rfl <;> decide
theorem sid_bd {r : Int} (h0 : 0 ≤ r) (h1 : r < 8) : sid r = 0 ∨ sid r = 1 := by rcases rod8 h0 h1 with rfl | rfl | rfl | rfl | rfl | rfl | rfl | rfl <;> decide
theorem wid_bd {r : Int} (h0 : 0 ≤ r) (h1 : r < 8) : 0 ≤ wid r ∧ wid r ≤ 40 := by rcases rod8 h0 h1 with rfl | rfl | rfl | rfl | rfl | rfl | rfl | rfl <;> decide
theorem mg_bd {r m : Int} (h0 : 0 ≤ r) (h1 : r < 8) (m0 : 0 ≤ m) (m1 : m < men r) : 0 ≤ m * gap r ∧ m * gap r ≤ 40 - wid r := by
  rcases rod8 h0 h1 with rfl | rfl | rfl | rfl | rfl | rfl | rfl | rfl <;> simp [men, gap, wid] at m1 ⊢ <;> omega
def WF (w : List Int) : Prop := w.length = 21 ∧ (∀ r : Int, 0 ≤ r → r < 8 → 0 ≤ at_ w r ∧ at_ w r ≤ wid r) ∧ (∀ r : Int, 0 ≤ r → r < 8 → at_ w (8 + r) = 0 ∨ at_ w (8 + r) = 1) ∧ ((at_ w 16 = -6 ∧ at_ w 17 = -6) ∨ (0 ≤ at_ w 16 ∧ at_ w 16 < 8 ∧ 0 ≤ at_ w 17 ∧ at_ w 17 < men (at_ w 16))) ∧ (0 ≤ at_ w 18 ∧ at_ w 18 ≤ 10) ∧ (0 ≤ at_ w 19 ∧ at_ w 19 ≤ 10) ∧ (0 ≤ at_ w 20 ∧ at_ w 20 ≤ 999) ∧ at_ w 8 + at_ w 9 + at_ w 11 + at_ w 13 ≤ 2 ∧ at_ w 10 + at_ w 12 + at_ w 14 + at_ w 15 ≤ 2
theorem pos_bd {w : List Int} {r m : Int} (hw : WF w) (h0 : 0 ≤ r) (h1 : r < 8) (m0 : 0 ≤ m) (m1 : m < men r) : 0 ≤ pos w r m ∧ pos w r m ≤ 40 := by
  have a1 := hw.2.1 r h0 h1
  have a2 := mg_bd h0 h1 m0 m1
  unfold pos
  omega
def hbits (w : List Int) : Int := at_ w 8 + 2 * at_ w 9 + 4 * at_ w 10 + 8 * at_ w 11 + 16 * at_ w 12 + 32 * at_ w 13 + 64 * at_ w 14 + 128 * at_ w 15
def tobj (t : Nat) (w : List Int) : HC := .inl (6, [vR (t + 1), vR (t + 2), vI (hbits w), vI (at_ w 16), vI (at_ w 17), vI (at_ w 20)])
def TabAt (h : MH) (t : Nat) (w : List Int) : Prop := h[t]? = some (tobj t w) ∧ h[t + 1]? = some (.inr (0, w.take 8)) ∧ h[t + 2]? = some (.inr (0, [at_ w 18, at_ w 19]))
def tset (h : MH) (t : Nat) (w : List Int) : MH := ((h.set t (tobj t w)).set (t + 1) (.inr (0, w.take 8))).set (t + 2) (.inr (0, [at_ w 18, at_ w 19]))
theorem set_same {h : MH} {i : Nat} {c : HC} (hq : h[i]? = some c) : h.set i c = h := by
  apply List.ext_getElem?
  intro j
  by_cases hj : i = j
  · subst hj
    rw [gs_eq hq, hq]
  · rw [List.getElem?_set_ne hj]
theorem set_comm {h : MH} {i j : Nat} {c d : HC} (hn : i ≠ j) : (h.set i c).set j d = (h.set j d).set i c := by
  apply List.ext_getElem?
  intro k
  simp only [List.getElem?_set, List.length_set]
  by_cases h1 : i = k <;> by_cases h2 : j = k <;> simp [h1, h2] <;> omega
theorem tab_tset {h : MH} {t : Nat} {w w' : List Int} (hT : TabAt h t w) : TabAt (tset h t w') t w' := by
  obtain ⟨h1, h2, h3⟩ := hT
  refine ⟨?_, ?_, ?_⟩
  · unfold tset
    exact gs_ne (by omega) (gs_ne (by omega) (gs_eq h1))
  · unfold tset
    exact gs_ne (by omega) (gs_eq (gs_ne (by omega) h2))
  · unfold tset
    exact gs_eq (gs_ne (by omega) (gs_ne (by omega) h3))
theorem tset_same {h : MH} {t : Nat} {w : List Int} (hT : TabAt h t w) : tset h t w = h := by
  obtain ⟨h1, h2, h3⟩ := hT
  unfold tset
  rw [set_same h1, set_same h2, set_same h3]
theorem tset_tset {h : MH} {t : Nat} {w w' : List Int} : tset (tset h t w) t w' = tset h t w' := by
  unfold tset
  apply List.ext_getElem?
  intro k
  simp only [List.getElem?_set, List.length_set]
  (repeat' split) <;> first | rfl | omega
theorem tset_ne {h : MH} {t i : Nat} {w : List Int} (h0 : i ≠ t) (h1 : i ≠ t + 1) (h2 : i ≠ t + 2) : (tset h t w)[i]? = h[i]? := by
  unfold tset
  rw [List.getElem?_set_ne (by omega), List.getElem?_set_ne (by omega), List.getElem?_set_ne (by omega)]
theorem tset_len {h : MH} {t : Nat} {w : List Int} : (tset h t w).length = h.length := by simp [tset]
theorem tset_o {h : MH} {t : Nat} {w w' : List Int} (hT : TabAt h t w) (h1 : w'.take 8 = w.take 8) (h2 : at_ w' 18 = at_ w 18) (h3 : at_ w' 19 = at_ w 19) : h.set t (tobj t w') = tset h t w' := by
  obtain ⟨q1, q2, q3⟩ := hT
  unfold tset
  rw [h1, h2, h3, set_same (gs_ne (by omega) q2), set_same (gs_ne (by omega) q3)]
theorem tset_s {h : MH} {t : Nat} {w w' : List Int} (hT : TabAt h t w) (h1 : tobj t w' = tobj t w) (h2 : at_ w' 18 = at_ w 18) (h3 : at_ w' 19 = at_ w 19) : h.set (t + 1) (.inr (0, w'.take 8)) = tset h t w' := by
  obtain ⟨q1, q2, q3⟩ := hT
  unfold tset
  rw [h1, h2, h3, set_same q1, set_same (gs_ne (by omega) q3)]
theorem tset_c {h : MH} {t : Nat} {w w' : List Int} (hT : TabAt h t w) (h1 : tobj t w' = tobj t w) (h2 : w'.take 8 = w.take 8) : h.set (t + 2) (.inr (0, [at_ w' 18, at_ w' 19])) = tset h t w' := by
  obtain ⟨q1, q2, q3⟩ := hT
  unfold tset
  rw [h1, h2, set_same q1, set_same q2]
-- reading and writing a list of numbers
theorem az_set {l : List Int} {i j v : Int} (hi : 0 ≤ i) (hl : i < (l.length : Int)) (hj : 0 ≤ j) : at_ (l.set i.toNat v) j = if i = j then v else at_ l j := by
  unfold at_
  rw [List.getD_eq_getElem?_getD, List.getElem?_set]
  by_cases h : i = j
  · subst h
    rw [if_pos rfl, if_pos (by omega), if_pos rfl]
    rfl
  · rw [if_neg (by omega), if_neg h, ← List.getD_eq_getElem?_getD]
theorem az_take {l : List Int} {n : Nat} {j : Int} (h0 : 0 ≤ j) (hj : j < (n : Int)) : at_ (l.take n) j = at_ l j := by
  unfold at_
  rw [List.getD_eq_getElem?_getD, List.getD_eq_getElem?_getD, List.getElem?_take_of_lt (by omega)]
theorem take_len {w : List Int} (hw : WF w) : (w.take 8).length = 8 := by rw [List.length_take, hw.1]; rfl
-- the least man of a rod who covers a place; -1
def covA (f g p : Int) : Nat → Int → Int
  | 0, _ => -1
  | k + 1, m => if -1 ≤ f + m * g - p ∧ f + m * g - p ≤ 1 then m else covA f g p k (m + 1)
def cov (w : List Int) (r p : Int) : Int := covA (at_ w r) (gap r) p (men r).toNat 0
theorem covA_bd (f g p : Int) : ∀ (k : Nat) (m : Int), 0 ≤ m → covA f g p k m = -1 ∨ (m ≤ covA f g p k m ∧ covA f g p k m < m + k)
  | 0, m, _ => Or.inl rfl
  | k + 1, m, h => by
    unfold covA
    split
    · right; omega
    · have := covA_bd f g p k (m + 1) (by omega)
      omega
theorem cov_bd (w : List Int) {r p : Int} (h0 : 0 ≤ r) (h1 : r < 8) : cov w r p = -1 ∨ (0 ≤ cov w r p ∧ cov w r p < men r) := by
  have h2 := men_bd h0 h1
  have := covA_bd (at_ w r) (gap r) p (men r).toNat 0 (by omega)
  unfold cov
  omega
