-- the law on the small machine, from its start to its end
section C89
theorem at_rep {n : Nat} {j : Int} : at_ (List.replicate n 0) j = 0 := by
  unfold at_
  rw [List.getD_eq_getElem?_getD, List.getElem?_replicate]
  split <;> rfl
theorem wf_00 : WF w00 := by
  refine ⟨rfl, fun r h0 h1 => ?_, fun r h0 h1 => ?_, Or.inl ⟨rfl, rfl⟩, ⟨by decide, by decide⟩, ⟨by decide, by decide⟩, ⟨by decide, by decide⟩, by decide, by decide⟩
  · rcases rod8 h0 h1 with rfl | rfl | rfl | rfl | rfl | rfl | rfl | rfl <;> decide
  · rcases rod8 h0 h1 with rfl | rfl | rfl | rfl | rfl | rfl | rfl | rfl <;> decide
theorem sg_00 : SgOK (List.replicate 8 0) (List.replicate 8 0) (List.replicate 30 0) 0 0 := ⟨rfl, rfl, rfl, by omega, fun j j0 j1 => by rw [at_rep]; omega, fun j j0 j1 => by rw [at_rep]; omega, by omega, fun j j0 j1 => by rw [at_rep]; omega⟩
def nHc : Nat → HC := fun k => nH9.getD k (.inr (0, []))
theorem inv_00 : Inv (z40 nHc rf0) := by
  have hC : CK w00 (List.replicate 60 0) 0 0 w00 (List.replicate 80 0) w00 (List.replicate 41 0) (List.replicate 8 0) (List.replicate 8 0) (List.replicate 30 0) 0 0 0 w00 (List.replicate 8 0) (List.replicate 8 0) (List.replicate 30 0) 0 0 0 w00 (List.replicate 8 0) (List.replicate 8 0) (List.replicate 30 0) 0 0 w00 (List.replicate 16 0) (List.replicate 80 0) (List.replicate 2 0) := by
    refine ⟨wf_00, ⟨rfl, by omega, by omega, by omega, fun j j0 j1 => by omega⟩, rfl, ⟨rfl, fun j j0 j1 => by rw [at_rep]; omega⟩, ⟨⟨rfl, fun j j0 j1 => by rw [at_rep]; omega⟩, rfl⟩, sg_00, ⟨Or.inl rfl, rfl, wf_00, sg_00, fun h => by omega⟩, ⟨Or.inl rfl, rfl, wf_00, sg_00, fun h => by omega⟩, rfl, ⟨rfl, fun j j0 j1 => by rw [at_rep, at_rep, at_rep]; exact ⟨rfl, rfl⟩⟩, rfl, rfl⟩
  have hJ : JL (List.replicate 21 0) (List.replicate 40 0) (List.replicate 16 0) (List.replicate 16 0) (List.replicate 121 0) := ⟨rfl, rfl, rfl, rfl, rfl⟩
  exact inv0 (pk := 0) (pr := 0) (pn := 0) (ac := 0) (st := 0) (re := 0) (fg := 0) (li := 0) (sl := 0) (sm := 0) (om := 0) (ga := 0) (mr := 0) (ma := 0) (ax := 0) hC hJ
theorem inv_len {h : MH} (hI : Inv h) : h.length = 51 ∧ slt h = 872 := inv_e hI (fun w ss cn pl pk pr pn ac st re fg we pc li sl wt pb sh sd rw sn fd i1 w1 sh1 sd1 rw1 sn1 fd1 i2 w2 sh2 sd2 rw2 sn2 fd2 wd sm om ga mr ma ax v sv fa gr ng wy im kp hC hJ e => by
  obtain ⟨c1, c2, c3, c4, c5, c6, c7, c8, c9, c10, c11, c12⟩ := hC
  obtain ⟨j1, j2, j3, j4, j5⟩ := hJ
  subst e
  refine ⟨rfl, ?_⟩
  have t1 : (w.take 8).length = 8 := by rw [List.length_take, c1.1]; rfl
  have t2 : (we.take 8).length = 8 := by rw [List.length_take, c3]; rfl
  have t3 : (wt.take 8).length = 8 := by rw [List.length_take, c5.2]; rfl
  have t4 : (w1.take 8).length = 8 := by rw [List.length_take, c7.2.2.1.1]; rfl
  have t5 : (w2.take 8).length = 8 := by rw [List.length_take, c8.2.2.1.1]; rfl
  have t6 : (wd.take 8).length = 8 := by rw [List.length_take, c9]; rfl
  have s1 := c6
  have s2 := c7.2.2.2.1
  have s3 := c8.2.2.2.1
  show nfC 7 + (nfC 6 + ((w.take 8).length + (2 + (nfC 3 + (ss.length + (nfC 1 + (nfC 6 + ((we.take 8).length + (2 + (nfC 4 + (pc.length + (nfC 0 + (nfC 6 + ((wt.take 8).length + (2 + (pb.length + (nfC 5 + (sh.length + (sd.length + (rw.length + (nfC 2 + (nfC 6 + ((w1.take 8).length + (2 + (nfC 5 + (sh1.length + (sd1.length + (rw1.length + (nfC 2 + (nfC 6 + ((w2.take 8).length + (2 + (nfC 5 + (sh2.length + (sd2.length + (rw2.length + (nfC 6 + ((wd.take 8).length + (2 + (nfC 8 + (w.length + (v.length + (sv.length + (ss.length + (fa.length + (gr.length + (ng.length + (wy.length + (im.length + (kp.length + 0)))))))))))))))))))))))))))))))))))))))))))))))))) = 872
  rw [t1, t2, t3, t4, t5, t6, c2.1, c4.1, c5.1.1, s1.1, s1.2.1, s1.2.2.1, s2.1, s2.2.1, s2.2.2.1, s3.1, s3.2.1, s3.2.2.1, c1.1, j1, j2, j3, j4, j5, c10.1, c11, c12]
  rfl)
theorem law_Rn (xs : List Int) (hx : ∀ z ∈ xs, inR z) (hL : xs.length ≤ 448) : ∃ h', Rn xs m_Law_law 0 [vS 3, vU, vU, vU] [] [] (some (vI 1)) h' ∧ h'.length ≤ 51 ∧ slt h' ≤ 872 := by
  obtain ⟨h', hI, e9⟩ := lp_law hx hL 64 0 (z40 nHc rf0) (by omega) (by omega) (by omega) inv_00
  have hl := inv_len hI
  refine ⟨h', ?_, by omega, by omega⟩
  have s1 := sp_F_init (xs := xs)
  have s2 : Sp xs m_M_init [vR 40] (nH9 ++ [.inl (8, dfC 8)]) none (z40 nHc rf0) := by
    have e := sp_M_init (xs := xs) (c := nHc)
    have eq : z40 nHc [.inl (8, dfC 8)] = nH9 ++ [.inl (8, dfC 8)] := rfl
    rw [eq] at e
    exact e
  have t8 : Rn xs m_Law_law 8 [vS 3, vR 0, vU, vU] [] nH9 (some (vI 1)) h' := by
    refine r_new cd_Law_law_8 ?_
    refine r_dup cd_Law_law_11 rfl ?_
    refine r_vz0 cd_Law_law_12 rfl ck_Law_law_M_init (Nat.le_of_ble_eq_true rfl) rfl rfl s2 ?_
    refine r_astoren4_2 cd_Law_law_15 rfl ?_
    refine r_iconst cd_Law_law_16 ?_
    refine r_istoren4_3 cd_Law_law_17 rfl ?_
    exact e9
  refine r_new cd_Law_law_0 ?_
  refine r_dup cd_Law_law_3 rfl ?_
  refine r_vz0 cd_Law_law_4 rfl ck_Law_law_F_init (Nat.le_of_ble_eq_true rfl) rfl rfl s1 ?_
  refine r_astoren4_1 cd_Law_law_7 rfl ?_
  exact t8
end C89
