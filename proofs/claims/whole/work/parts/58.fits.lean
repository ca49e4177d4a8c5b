-- the rows found, as a list
section C58
variable {sh sd : List Int} {cn : Int}
def flA (sh sd : List Int) (cn : Int) : Nat → Int → List Int
  | 0, _ => []
  | k + 1, row => if irB row = true ∧ faB sh sd cn row 8 0 = true then row :: flA sh sd cn k (row + 1) else flA sh sd cn k (row + 1)
theorem at_c0 {x : Int} {l : List Int} : at_ (x :: l) 0 = x := rfl
theorem at_cs {x : Int} {l : List Int} {j : Int} (h0 : 0 ≤ j) : at_ (x :: l) (j + 1) = at_ l j := by
  unfold at_
  rw [show (j + 1).toNat = j.toNat + 1 by omega]
  rfl
theorem fnA_fl : ∀ (k : Nat) (row n : Int) (l : List Int), 0 ≤ n → n + (flA sh sd cn k row).length ≤ l.length → (fnA sh sd cn k row l n).2 = n + (flA sh sd cn k row).length ∧ (fnA sh sd cn k row l n).1.length = l.length ∧ (∀ j : Int, 0 ≤ j → j < n → at_ (fnA sh sd cn k row l n).1 j = at_ l j) ∧ (∀ j : Int, 0 ≤ j → j < (flA sh sd cn k row).length → at_ (fnA sh sd cn k row l n).1 (n + j) = at_ (flA sh sd cn k row) j)
  | 0, row, n, l, h0, h1 => by
    unfold fnA flA
    exact ⟨by simp, rfl, fun j _ _ => rfl, fun j j0 j1 => by simp at j1; omega⟩
  | k + 1, row, n, l, h0, h1 => by
    by_cases z : irB row = true ∧ faB sh sd cn row 8 0 = true
    · have e1 : flA sh sd cn (k + 1) row = row :: flA sh sd cn k (row + 1) := by conv => { lhs; unfold flA }; rw [if_pos z]
      have e2 : fnA sh sd cn (k + 1) row l n = fnA sh sd cn k (row + 1) (l.set n.toNat row) (n + 1) := by conv => { lhs; unfold fnA }; rw [if_pos z]
      rw [e1] at h1 ⊢
      rw [e2]
      rw [List.length_cons] at h1
      have ih := fnA_fl k (row + 1) (n + 1) (l.set n.toNat row) (by omega) (by rw [List.length_set]; omega)
      refine ⟨by rw [ih.1, List.length_cons]; omega, by rw [ih.2.1, List.length_set], fun j j0 j1 => ?_, fun j j0 j1 => ?_⟩
      · rw [ih.2.2.1 j j0 (by omega), az_set h0 (by omega) j0, if_neg (by omega)]
      · rw [List.length_cons] at j1
        by_cases y : j = 0
        · subst y
          rw [Int.add_zero, ih.2.2.1 n h0 (by omega), az_set h0 (by omega) h0, if_pos rfl]
          exact at_c0.symm
        · have e9 := ih.2.2.2 (j - 1) (by omega) (by omega)
          rw [show n + 1 + (j - 1) = n + j by omega] at e9
          rw [e9, show j = (j - 1) + 1 by omega, at_cs (by omega), show j - 1 + 1 - 1 = j - 1 by omega]
    · have e1 : flA sh sd cn (k + 1) row = flA sh sd cn k (row + 1) := by conv => { lhs; unfold flA }; rw [if_neg z]
      have e2 : fnA sh sd cn (k + 1) row l n = fnA sh sd cn k (row + 1) l n := by conv => { lhs; unfold fnA }; rw [if_neg z]
      rw [e1] at h1 ⊢
      rw [e2]
      exact fnA_fl k (row + 1) n l h0 h1
end C58
