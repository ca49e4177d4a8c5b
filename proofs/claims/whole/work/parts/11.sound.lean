-- a run of the small machine is a run of the machine
theorem ge_set {h : MH} {i : Nat} {c0 c : HC} (hq : h[i]? = some c0) (hs : csz c = csz c0) : h.length ≤ (h.set i c).length ∧ slt h ≤ slt (h.set i c) := ⟨by rw [List.length_set]; exact Nat.le_refl _, by rw [slt_set hq hs]; exact Nat.le_refl _⟩
theorem ge_push {h : MH} {c : HC} : h.length ≤ (h ++ [c]).length ∧ slt h ≤ slt (h ++ [c]) := ⟨by rw [List.length_append]; exact Nat.le_add_right _ _, by rw [slt_push]; exact Nat.le_add_right _ _⟩
theorem ge_rf {h : MH} : h.length ≤ h.length ∧ slt h ≤ slt h := ⟨Nat.le_refl _, Nat.le_refl _⟩
theorem ge_aPut {kd q : Nat} {h h1 : MH} {j x : Int} {np pc' : Nat} {ls r ls' st' : List MV} (hs : aPut kd h q j x np ls r = some (pc', ls', st', h1)) : h.length ≤ h1.length ∧ slt h ≤ slt h1 := by
  unfold aPut at hs
  split at hs
  · next k9 li hq =>
    replace hs := if_some hs
    obtain ⟨-, hs⟩ := hs
    obtain ⟨-, -, -, rfl⟩ := some4 hs
    exact ge_set hq (by simp [csz])
  · cases hs
theorem ge_aGet {xs : List Int} {kd : Nat} {h h1 : MH} {st : List MV} {f : Int → List MV → SR} {pc' : Nat} {ls' st' : List MV} (hf : ∀ z r pc' ls' st' h1, f z r = some (pc', ls', st', h1) → h1 = h) (hs : aGet xs kd h st f = some (pc', ls', st', h1)) : h1 = h := by
  unfold aGet at hs
  split at hs
  · split at hs
    · obtain ⟨-, hs⟩ := if_some hs
      exact hf _ _ _ _ _ _ hs
    · cases hs
  · obtain ⟨-, hs⟩ := if_some hs
    exact hf _ _ _ _ _ _ hs
  · cases hs
theorem ge_jump {pc : Nat} {off : Option Int} {ls r ls' st' : List MV} {h h1 : MH} {pc' : Nat} (hs : jump pc off ls r h = some (pc', ls', st', h1)) : h1 = h := by
  unfold jump at hs
  split at hs
  · obtain ⟨-, hs⟩ := if_some hs
    exact (some4 hs).2.2.2.symm
  · cases hs
def noHeap : Instr → Bool
  | .putfield _ => false
  | .iastore => false
  | .lastore => false
  | .bastore => false
  | .newarray _ => false
  | .new _ => false
  | _ => true
set_option maxHeartbeats 4000000 in
theorem sstep_eq {xs : List Int} {pc pc' np a b : Nat} {I : Instr} {c : Int} {ls st ls' st' : List MV} {h h1 : MH} (hn : noHeap I = true) (hs : sstep xs pc (I, np, a, b, c) ls st h = some (pc', ls', st', h1)) : h1 = h := by
  cases I <;> first
    | (simp [noHeap] at hn; done)
    | (simp [sstep] at hs; done)
    | (simp only [sstep] at hs; exact (some4 hs).2.2.2.symm)
    | (simp only [sstep, ldI, ldL, ldA, stI, stL, stA] at hs; split at hs <;> first | exact (some4 hs).2.2.2.symm | exact (some4 (if_some hs).2).2.2.2.symm | cases hs)
    | (simp only [sstep] at hs; obtain ⟨x, r, -, hs⟩ := s1_some hs; first | exact (some4 hs).2.2.2.symm | exact (some4 (if_some hs).2).2.2.2.symm | exact ge_jump (if_some hs).2)
    | (simp only [sstep] at hs; obtain ⟨x, y, r, -, hs⟩ := s2_some hs; first | exact (some4 hs).2.2.2.symm | exact (some4 (if_some hs).2).2.2.2.symm)
    | (simp only [sstep] at hs; obtain ⟨x, r, -, hs⟩ := l1_some hs; first | exact (some4 hs).2.2.2.symm | exact (some4 (if_some hs).2).2.2.2.symm)
    | (simp only [sstep] at hs; obtain ⟨x, y, r, -, hs⟩ := l2_some hs; first | exact (some4 hs).2.2.2.symm | exact (some4 (if_some hs).2).2.2.2.symm)
    | (simp only [sstep] at hs; exact ge_aGet (fun z r pc' ls' st' h1 hz => (some4 hz).2.2.2.symm) hs)
    | (simp only [sstep] at hs; split at hs <;> first | exact (some4 hs).2.2.2.symm | exact (some4 (if_some hs).2).2.2.2.symm | (cases hs; done) | (split at hs <;> first | exact (some4 hs).2.2.2.symm | (cases hs; done) | (obtain ⟨-, hs⟩ := if_some hs; split at hs <;> first | exact (some4 hs).2.2.2.symm | (cases hs; done))))
theorem sstep_ge {xs : List Int} {pc pc' : Nat} {e0 : EN} {ls st ls' st' : List MV} {h h1 : MH} (hs : sstep xs pc e0 ls st h = some (pc', ls', st', h1)) : h.length ≤ h1.length ∧ slt h ≤ slt h1 := by
  obtain ⟨I, np, a, b, c⟩ := e0
  by_cases hn : noHeap I = true
  · rw [sstep_eq hn hs]; exact ge_rf
  · cases I with
    | putfield ix =>
      simp only [sstep] at hs
      split at hs
      · split at hs
        · next ci fs hq =>
          obtain ⟨-, hs⟩ := if_some hs
          obtain ⟨-, -, -, rfl⟩ := some4 hs
          exact ge_set hq rfl
        · cases hs
      · cases hs
    | iastore =>
      simp only [sstep] at hs
      split at hs
      · exact ge_aPut hs
      · cases hs
    | lastore =>
      simp only [sstep] at hs
      split at hs
      · exact ge_aPut hs
      · cases hs
    | bastore =>
      simp only [sstep] at hs
      split at hs
      · exact ge_aPut (if_some hs).2
      · cases hs
    | newarray t =>
      simp only [sstep] at hs
      obtain ⟨x, r, -, hs⟩ := s1_some hs
      obtain ⟨-, hs⟩ := if_some hs
      cases t with
      | int => obtain ⟨-, -, -, rfl⟩ := some4 hs; exact ge_push
      | long => obtain ⟨-, -, -, rfl⟩ := some4 hs; exact ge_push
      | boolean => obtain ⟨-, -, -, rfl⟩ := some4 hs; exact ge_push
      | _ => cases hs
    | new ix =>
      simp only [sstep] at hs
      obtain ⟨-, -, -, rfl⟩ := some4 hs
      exact ge_push
    | _ => exact absurd rfl hn
/-- what a call of the small machine tells -/
theorem mcall_some {F : Nat} {call : Nat → Nat → List MV → MH → Option (Option MV × MH)} {Lr np a b : Nat} {I : Instr} {c : Int} {st st' : List MV} {h h2 : MH} (hs : mcall F call Lr (I, np, a, b, c) st h = some (st', h2)) :
    (b = 5 ∧ h2 = h ∧ 1 ≤ F ∧ 20 ≤ Lr ∧ csum st' ≤ 8 ∧ ∃ q, st = vR q :: st') ∨
    (b ≠ 5 ∧ ∃ (as rest : List MV) (r : Option MV), st = as.reverse ++ rest ∧ as.length = naC b a ∧ csum rest ≤ 8 ∧ 19 + mxM a ≤ Lr ∧ recvOK b a as h = true ∧ call (Lr - (19 + mxM a)) a as h = some (r, h2) ∧ st' = pushR r rest) := by
  simp only [mcall] at hs
  by_cases hb : b = 5
  · rw [if_pos hb] at hs
    split at hs
    · next q r' =>
      by_cases hq : 1 ≤ F ∧ 20 ≤ Lr ∧ csum r' ≤ 8
      · rw [if_pos hq] at hs
        simp only [Option.some.injEq, Prod.mk.injEq] at hs
        obtain ⟨rfl, rfl⟩ := hs
        exact Or.inl ⟨hb, rfl, hq.1, hq.2.1, hq.2.2, _, rfl⟩
      · rw [if_neg hq] at hs; cases hs
    · cases hs
  · rw [if_neg hb] at hs
    by_cases hq : naC b a ≤ st.length ∧ csum (st.drop (naC b a)) ≤ 8 ∧ 19 + mxM a ≤ Lr ∧ recvOK b a (st.take (naC b a)).reverse h = true
    · rw [if_pos hq] at hs
      cases hc : call (Lr - (19 + mxM a)) a (st.take (naC b a)).reverse h with
      | none => rw [hc] at hs; cases hs
      | some z =>
        obtain ⟨r, h3⟩ := z
        rw [hc] at hs
        simp only [Option.some.injEq, Prod.mk.injEq] at hs
        obtain ⟨rfl, rfl⟩ := hs
        refine Or.inr ⟨hb, _, st.drop (naC b a), r, ?_, ?_, hq.2.1, hq.2.2.1, hq.2.2.2, hc, rfl⟩
        · rw [List.reverse_reverse, List.take_append_drop]
        · rw [List.length_reverse, List.length_take]; omega
    · rw [if_neg hq] at hs; cases hs
theorem goN_ge {xs : List Int} {F : Nat} {call : Nat → Nat → List MV → MH → Option (Option MV × MH)} (hcall : ∀ L a as h r h', call L a as h = some (r, h') → h.length ≤ h'.length ∧ slt h ≤ slt h') :
    ∀ (n Lr m pc : Nat) (ls st : List MV) (h : MH) (r : Option MV) (h' : MH), goN xs F call n Lr m pc ls st h = some (r, h') → h.length ≤ h'.length ∧ slt h ≤ slt h' := by
  intro n
  induction n with
  | zero => intro Lr m pc ls st h r h' hr; simp [goN] at hr
  | succ n ih =>
    intro Lr m pc ls st h r h' hr
    unfold goN at hr
    cases hco : code_ m pc with
    | none => rw [hco] at hr; cases hr
    | some e0 =>
      rw [hco] at hr
      dsimp only at hr
      by_cases h1 : kindI e0.1 = 1
      · rw [if_pos h1] at hr
        cases hm : mret m e0.1 st with
        | none => rw [hm] at hr; cases hr
        | some z =>
          rw [hm] at hr
          simp only [Option.some.injEq, Prod.mk.injEq] at hr
          rw [hr.2]
          exact ge_rf
      · rw [if_neg h1] at hr
        by_cases h2 : kindI e0.1 = 2
        · rw [if_pos h2] at hr
          cases hm : mcall F call Lr e0 st h with
          | none => rw [hm] at hr; cases hr
          | some z =>
            obtain ⟨st', h2'⟩ := z
            rw [hm] at hr
            have g1 := ih _ _ _ _ _ _ _ _ hr
            obtain ⟨I, np, a, b, c⟩ := e0
            rcases mcall_some hm with ⟨-, rfl, -⟩ | ⟨-, as, rest, r9, -, -, -, -, -, hc, -⟩
            · exact g1
            · have g2 := hcall _ _ _ _ _ _ hc
              exact ⟨Nat.le_trans g2.1 g1.1, Nat.le_trans g2.2 g1.2⟩
        · rw [if_neg h2] at hr
          cases hs : sstep xs pc e0 ls st h with
          | none => rw [hs] at hr; cases hr
          | some z =>
            obtain ⟨pc', ls', st', h1'⟩ := z
            rw [hs] at hr
            have g1 := ih _ _ _ _ _ _ _ _ hr
            have g2 := sstep_ge hs
            exact ⟨Nat.le_trans g2.1 g1.1, Nat.le_trans g2.2 g1.2⟩
theorem exec_ge {xs : List Int} : ∀ (F n Lr m : Nat) (as : List MV) (h : MH) (r : Option MV) (h' : MH), exec xs F n Lr m as h = some (r, h') → h.length ≤ h'.length ∧ slt h ≤ slt h' := by
  intro F
  induction F with
  | zero => intro n Lr m as h r h' hr; simp [exec] at hr
  | succ F ih =>
    intro n Lr m as h r h' hr
    unfold exec at hr
    by_cases hq : (lay as).length ≤ mxM m
    · rw [if_pos hq] at hr
      exact goN_ge (fun L a as h r h' hz => ih n L a as h r h' hz) _ _ _ _ _ _ _ _ _ hr
    · rw [if_neg hq] at hr; cases hr
def wsM (m : Nat) : List Jvm.Cond := .code (yM m) (byM m) (mxM m) (retM m) :: ALL
def NMc : Nat := MIc.length
theorem MI_ok1 : ∀ k, k < NMc → (yM k).cls ≠ "java/lang/invoke/MethodHandle" ∧ (yM k).cls ≠ "java/lang/invoke/VarHandle" := by decide +kernel
theorem MI_ok2 : ∀ k, k < NMc → (parseMethodDescriptor (yM k).desc).map (fun d => d.parameters.length) = some (npM k) := by decide +kernel
theorem MI_ok3 : ∀ k, k < NMc → plainFor (yM k) = true := by decide +kernel
theorem MI_ok4 : ∀ k, k < NMc → (yM k).cls = cnm (clsM k) ∧ clsM k < 15 := by decide +kernel
theorem MI_ok : ∀ k, k < NMc → ((yM k).cls ≠ "java/lang/invoke/MethodHandle" ∧ (yM k).cls ≠ "java/lang/invoke/VarHandle" ∧ (parseMethodDescriptor (yM k).desc).map (fun d => d.parameters.length) = some (npM k)) ∧ plainFor (yM k) = true ∧ (yM k).cls = cnm (clsM k) ∧ clsM k < 15 := fun k hk => ⟨⟨(MI_ok1 k hk).1, (MI_ok1 k hk).2, MI_ok2 k hk⟩, MI_ok3 k hk, MI_ok4 k hk⟩
theorem KT_ok : ∀ q ∈ KT, q.2.2.2 < NMc ∧ (q.2.2.1 = 2 ∨ q.2.2.1 = 4 → (yM q.2.2.2).name = "<init>" ∧ retM q.2.2.2 = none) ∧ (q.2.2.1 = 1 → clsM q.2.2.2 < 9) := by decide +kernel
theorem NST_ok : ∀ q ∈ KT, q.2.2.1 = 3 ∨ q.2.2.1 = 4 → ∃ z ∈ NST, z.1 = q.1 ∧ z.2.1 = q.2.1 ∧ z.2.2.1 = q.2.2.2 := by decide +kernel
theorem code_in {k : Nat} (hk : k < NMc) : Jvm.Cond.code (yM k) (byM k) (mxM k) (retM k) ∈ ALL := by
  obtain ⟨i, hi⟩ : ∃ i, MIc[k]? = some i := ⟨_, List.getElem?_eq_getElem (by exact hk)⟩
  have hm : MI[k]? = some i := by
    unfold MI
    rw [List.getElem?_append_left (by exact hk)]
    exact hi
  unfold ALL
  refine List.mem_append_left _ (List.mem_map.mpr ⟨i, List.mem_of_getElem? hi, ?_⟩)
  unfold cdC yM byM mxM retM miOf
  rw [hm]
  rfl
theorem wsM_good {k : Nat} (hk : k < NMc) : GoodIn ALL (wsM k) := by
  intro w hw
  have hin : w ∈ ALL := by
    rcases List.mem_cons.mp hw with rfl | h
    · exact code_in hk
    · exact h
  exact ⟨hin, good_of_word (ALL_good w hin)⟩
theorem KT_in {o ix k a : Nat} (h : (o, ix, k, a) ∈ KT) : (k = 0 ∨ k = 1 ∨ k = 2 → Jvm.Cond.methodLink (cnm o) ix (yM a) ∈ ALL) ∧ (k = 0 ∨ k = 3 → Jvm.Cond.static (yM a) ∈ ALL) ∧ (k = 1 ∨ k = 2 ∨ k = 4 → Jvm.Cond.instanceMethod (yM a) ∈ ALL) ∧ (k = 1 → Jvm.Cond.selects (yM a).cls (yM a) (yM a) ∈ ALL) := by
  have key : ∀ w ∈ kwC (o, ix, k, a), w ∈ ALL := by
    intro w hw
    unfold ALL
    exact List.mem_append_right _ (List.mem_append_right _ (List.mem_append_right _ (List.mem_append_right _ (List.mem_append_left _ (List.mem_flatMap.mpr ⟨_, h, hw⟩)))))
  unfold kwC at key
  dsimp only at key
  refine ⟨fun z => key _ ?_, fun z => key _ ?_, fun z => key _ ?_, fun z => key _ ?_⟩
  · refine List.mem_append_left _ ?_
    rw [if_pos z]
    exact List.mem_cons_self
  · refine List.mem_append_right _ (List.mem_append_left _ ?_)
    rw [if_pos z]
    exact List.mem_cons_self
  · refine List.mem_append_right _ (List.mem_append_right _ (List.mem_append_left _ ?_))
    rw [if_pos z]
    exact List.mem_cons_self
  · refine List.mem_append_right _ (List.mem_append_right _ (List.mem_append_right _ ?_))
    rw [if_pos z]
    exact List.mem_cons_self
theorem OT_in {o ix : Nat} (h : (o, ix) ∈ OT) : Jvm.Cond.methodLink (cnm o) ix Lib.objectInit ∈ ALL := by
  unfold ALL
  exact List.mem_append_right _ (List.mem_append_right _ (List.mem_append_right _ (List.mem_append_right _ (List.mem_append_right _ (List.mem_append_right _ (List.mem_append_right _ (List.mem_append_right _ (List.mem_append_right _ (List.mem_append_right _ (List.mem_append_left _ (List.mem_map.mpr ⟨_, h, rfl⟩)))))))))))
theorem O2_in : ∀ w ∈ A_obj2, w ∈ ALL := by
  intro w h
  unfold ALL
  exact List.mem_append_right _ (List.mem_append_right _ (List.mem_append_right _ (List.mem_append_right _ (List.mem_append_right _ (List.mem_append_right _ (List.mem_append_right _ (List.mem_append_right _ (List.mem_append_right _ (List.mem_append_right _ (List.mem_append_right _ h))))))))))
def Pc_ (D : va_G) (K : Nat → ClassId) (B : Nat) (sd : Nat → Nat) (xs : List Int) (as : List MV) (h : MH) : Array Value → State → Prop := va_Pc (as.map (cv B sd)) (fun U => va_P D CL (wd K B sd h) U.heap ∧ U.heap.size = B + h.length ∧ EnvU D K B sd xs U)
def Qc_ (D : va_G) (K : Nat → ClassId) (B : Nat) (sd : Nat → Nat) (r : Option MV) (h' : MH) : Array Value → State → Outcome → State → Prop := fun _ st oc t => oc = .returned (r.map (cv B sd)) ∧ va_P D CL (wd K B sd h') t.heap ∧ t.heap.size = B + h'.length ∧ va_F (AB B) st t
theorem Pc_blind {D : va_G} {K : Nat → ClassId} {B : Nat} {sd : Nat → Nat} {xs : List Int} {as : List MV} {h : MH} : FrameBlind (Pc_ D K B sd xs as h) := by
  intro a U g mk q
  obtain ⟨q1, q2, q3, q4⟩ := q
  exact ⟨q1, q2, q3, va_K.moved (u := U) (U := U.calling g mk a) (Vm.Alike.refl U.vm) q4.1, fun k n hn => va_Z.moved (u := U) (U := U.calling g mk a) (Vm.Alike.refl U.vm) (q4.2.1 k n hn), fun k hk => va_T.moved (u := U) (U := U.calling g mk a) (Vm.Alike.refl U.vm) (q4.2.2.1 k hk), fun q hq => va_Nw.same (u := U) (U := U.calling g mk a) rfl rfl (q4.2.2.2 q hq)⟩
theorem lay_len (B : Nat) (sd : Nat → Nat) : ∀ as : List MV, (lg_sl (as.map (cv B sd))).length = (lay as).length
  | [] => rfl
  | v :: vs => by
    have ih := lay_len B sd vs
    unfold lg_sl at ih ⊢
    rw [List.map_cons, List.flatMap_cons, List.length_append, ih]
    rcases v with z | z | k | k | b <;> simp [lay, cv, Value.category, Nat.add_comm] <;> omega
theorem lay_args (B : Nat) (sd : Nat → Nat) : ∀ (as : List MV) (off i : Nat) (v : MV), (lay as)[i]? = some v → isU v = false → (off + i, cv B sd v) ∈ lv_args off (as.map (cv B sd))
  | [], off, i, v, h, _ => by simp [lay] at h
  | w :: ws, off, i, v, h, hu => by
    by_cases hw : ∃ z, w = vL z
    · obtain ⟨z, rfl⟩ := hw
      have e1 : lay (vL z :: ws) = vL z :: vU :: lay ws := rfl
      rw [e1] at h
      have e2 : lv_args off ((vL z :: ws).map (cv B sd)) = (off, cv B sd (vL z)) :: lv_args (off + 2) (ws.map (cv B sd)) := rfl
      rw [e2]
      match i, h with
      | 0, h =>
        rw [List.getElem?_cons_zero] at h
        cases h
        exact List.mem_cons_self
      | 1, h =>
        rw [List.getElem?_cons_succ, List.getElem?_cons_zero] at h
        cases h
        simp [isU] at hu
      | i + 2, h =>
        rw [List.getElem?_cons_succ, List.getElem?_cons_succ] at h
        have := lay_args B sd ws (off + 2) i v h hu
        rw [show off + 2 + i = off + (i + 2) by omega] at this
        exact List.mem_cons_of_mem _ this
    · have e1 : lay (w :: ws) = w :: lay ws := by
        rcases w with z | z | k | k | b
        · rfl
        · exact absurd ⟨z, rfl⟩ hw
        · rfl
        · rfl
        · rfl
      have e2 : lv_args off ((w :: ws).map (cv B sd)) = (off, cv B sd w) :: lv_args (off + 1) (ws.map (cv B sd)) := by
        rcases w with z | z | k | k | b
        · rfl
        · exact absurd ⟨z, rfl⟩ hw
        · rfl
        · rfl
        · rfl
      rw [e1] at h
      rw [e2]
      match i, h with
      | 0, h =>
        rw [List.getElem?_cons_zero] at h
        cases h
        exact List.mem_cons_self
      | i + 1, h =>
        rw [List.getElem?_cons_succ] at h
        have := lay_args B sd ws (off + 1) i v h hu
        rw [show off + 1 + i = off + (i + 1) by omega] at this
        exact List.mem_cons_of_mem _ this
theorem LH_entry {B : Nat} {sd : Nat → Nat} {as : List MV} {m : Nat} (hl : (lay as).length ≤ mxM m) : LH B sd ((lg_sl (as.map (cv B sd)) ++ List.replicate (mxM m - (lg_sl (as.map (cv B sd))).length) Slot.unset).toArray) (mxM m) (ini m as) := by
  have h1 := lv_entry (as.map (cv B sd)) (n := mxM m) (by rw [lay_len]; exact hl)
  refine ⟨by unfold ini; rw [List.length_append, List.length_replicate]; omega, h1.1, h1.2.1, fun q hq => h1.2.2 q ?_⟩
  obtain ⟨i, val⟩ := q
  obtain ⟨w, hw, hu, he⟩ := lvl_mem.mp hq
  dsimp only at hw he
  subst he
  unfold ini at hw
  by_cases hi : i < (lay as).length
  · rw [List.getElem?_append_left hi] at hw
    have := lay_args B sd as 0 i w hw hu
    rwa [Nat.zero_add] at this
  · rw [List.getElem?_append_right (by omega)] at hw
    have h2 := List.mem_of_getElem? hw
    rw [List.eq_of_mem_replicate h2] at hu
    simp [isU] at hu
