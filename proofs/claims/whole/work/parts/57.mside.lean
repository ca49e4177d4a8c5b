-- the reference's side of a row
section C57
variable {xs : List Int} {h : MH}
theorem sdm_k : ∀ n : Nat, n < 80 → ∀ r : Nat, r < 4 → bAnd (bShr ((n % 16 : Nat) : Int) (r : Int)) 1 = bAnd (bShr (n : Int) (r : Int)) 1 := by decide +kernel
theorem sp_M_sideAt {code shot : Int} (h0 : 16 ≤ code) (h1 : code < 80) (s0 : 0 ≤ shot) (s1 : shot ≤ 60) : Sp xs m_M_sideAt [vI code, vI shot] h (some (vI (sdb code shot))) h := by
  have e1 : code.tdiv 16 = code / 16 := Int.tdiv_eq_ediv_of_nonneg (by omega)
  have e2 : code.tmod 16 = code % 16 := Int.tmod_eq_emod_of_nonneg (by omega)
  have e3 : shot.tmod (code / 16) = shot % (code / 16) := Int.tmod_eq_emod_of_nonneg s0
  have r0 : 0 ≤ shot % (code / 16) := Int.emod_nonneg _ (by omega)
  have r1 : shot % (code / 16) < code / 16 := Int.emod_lt_of_pos _ (by omega)
  have k := sdm_k code.toNat (by omega) (shot % (code / 16)).toNat (by omega)
  rw [show ((code.toNat : Nat) : Int) = code by omega, show (((shot % (code / 16)).toNat : Nat) : Int) = shot % (code / 16) by omega, show ((code.toNat % 16 : Nat) : Int) = code % 16 by omega] at k
  have tail : ∀ x, x = code / 16 → Rn xs m_M_sideAt 9 [vI code, vI shot] [vI x, vI shot, vI (code % 16)] h (some (vI (sdb code shot))) h := by
    intro x hx
    subst hx
    refine r_irem cd_M_sideAt_9 ⟨by omega, by omega⟩ ⟨by omega, by omega⟩ (by omega) ?_
    refine r_ishr cd_M_sideAt_10 ?_
    refine r_iconst cd_M_sideAt_11 ?_
    refine r_iand cd_M_sideAt_12 ?_
    exact r_iret cd_M_sideAt_13 rt_M_sideAt (by (rw [e3, k]; unfold sdb; rw [if_neg (by omega)])) (by rfl)
  refine en_M_sideAt ?_
  refine r_iload_n cd_M_sideAt_0 rfl ?_
  refine r_bipush cd_M_sideAt_1 ?_
  refine r_irem cd_M_sideAt_3 ⟨by omega, by omega⟩ ⟨by decide, by decide⟩ (by decide) ?_
  refine r_iload_n cd_M_sideAt_4 rfl ?_
  refine r_iload_n cd_M_sideAt_5 rfl ?_
  refine r_bipush cd_M_sideAt_6 ?_
  refine r_idiv cd_M_sideAt_8 ⟨by omega, by omega⟩ ⟨by decide, by decide⟩ (by decide) ?_
  (rw [e2]; exact tail _ e1)
end C57
