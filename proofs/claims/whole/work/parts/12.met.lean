-- every run of a method of the small machine is a contract of the machine's method
theorem met_of {l : Launch} {y : MethodName} {ws ws' : List Jvm.Cond} {rm : Room} {Pc : Array Value → State → Prop} {Qc : Array Value → State → Outcome → State → Prop} {mc ms : Nat} {free : Addr → Prop} {cc : ByteArray} {maxL : Nat} {ret : Option FieldType}
    (hy : plainFor y = true) (hw : ws = Jvm.Cond.code y cc maxL ret :: ws')
    (body : ∀ p e s m args below meth c s₁, BodyLoose p l y (headSpec ws rm) cc maxL ret e s m args below meth c s₁ → c.maxLocals = maxL → Pc args s →
      W p l e (headSpec ws rm).room s m args below meth c s.heap [] 0 0 (MQ below Qc args s mc ms free) (entryFrame m args maxL)) : Met l y ws rm Pc Qc mc ms free := by
  refine MetFree.of_bodySF (code := cc) (maxLocals := maxL) (ret := ret) hy ?_ ?_
  · intro args s m h hn
    obtain ⟨meth, c, h1, h2, h3, h4, h5, h6, -, -⟩ := Cond.code_spec hn (atoms_spec (ws := ws) h _ (by rw [hw]; exact List.mem_cons_self))
    exact ⟨meth, c, h1, h2, h3, h4, h5, h6⟩
  · intro p e s m args below meth c s₁ B hml hP _
    have hh0 : s₁.heap = s.heap := by rw [B.state]; rfl
    obtain ⟨t, a1, o, b1, b2, b3⟩ := body p e s m args below meth c s₁ B hml hP s₁ hh0 (Stand.of_body B)
    exact ⟨t, o, a1, b1, b2, ⟨b3.1, b3.2⟩⟩
section MTS
variable {p : Program} {l : Launch} {e : Env} {R : Room} {s : State} {m : MethodId} {args : Array Value} {below : List Frame} {meth : Method} {c : Code} {Q : State → Prop}
variable {D : va_G} {K : Nat → ClassId} {B : Nat} {sd : Nat → Nat} {xs : List Int} {mi : Nat}
theorem my_call {H : Heap} {locs : List Loc} {cells slots mc ms pc : Nat} {lsA : Array Slot} {st0 rest : List Value} {a0 : Array Value} {r1 : Option MV} {h2 : MH}
    (hr : va_Run p l e R s m args below meth c H locs cells slots mc ms (F0 m pc lsA st0) rest (Qc_ D K B sd r1 h2 a0) (AB B)) (hS : va_S (AB B) s.heap H locs)
    (kk : ∀ (H1 : Heap) (locs1 : List Loc), va_P D CL (wd K B sd h2) H1 → H1.size = B + h2.length → va_S (AB B) s.heap H1 locs1 → W p l e R s m args below meth c H1 locs1 (cells + mc) (slots + ms) Q (F0 m (pc + 3) lsA ((r1.map (cv B sd)).toList ++ rest))) : W p l e R s m args below meth c H locs cells slots Q (F0 m pc lsA st0) := by
  intro T hT X
  obtain ⟨v, st₀, t, T', L, h0, X', hL, e1, e2, ⟨hv, hp, hsz, hz, hk⟩, st⟩ := hr T hT X
  cases hv
  rw [h0] at hz hk
  obtain ⟨t2, a1, b1⟩ := kk T'.heap (locs ++ L) (by rw [e1]; exact hp) (by rw [e1]; exact hsz)
    ⟨Nat.le_trans hS.1 (by rw [e1]; exact hz), fun q h1 h2 => by rw [e1, hk q (Nat.lt_of_lt_of_le h1 hS.1) h2]; exact hS.2.1 q h1 h2, fun q hq => by
      rcases List.mem_append.mp hq with h | h
      · exact hS.2.2 q h
      · exact hL q h⟩ T' rfl X'
  exact ⟨t2, st t2 a1, b1⟩
theorem cat_sum (B : Nat) (sd : Nat → Nat) (st : List MV) : ((st.map (cv B sd)).map fun v => v.category).sum = csum st := by
  unfold csum
  congr 1
  rw [List.map_map]
  apply List.map_congr_left
  intro v _
  exact cv_cat B sd v
theorem push_map (r1 : Option MV) (rest : List MV) : (r1.map (cv B sd)).toList ++ rest.map (cv B sd) = (pushR r1 rest).map (cv B sd) := by
  cases r1 <;> rfl
/-- the body of a method, from any of its states -/
theorem body_sound (bd : Bd p s m args meth c mi D K B sd xs) {F : Nat} {call : Nat → Nat → List MV → MH → Option (Option MV × MH)}
    (hge : ∀ L a as h r h', call L a as h = some (r, h') → h.length ≤ h'.length ∧ slt h ≤ slt h')
    (hcall : ∀ (L a : Nat) (as : List MV) (h : MH) (r : Option MV) (h' : MH), a < NMc → call L a as h = some (r, h') → ∃ Fr, Fr + 1 ≤ F ∧ Met l (yM a) (wsM a) { frames := Fr, cells := h'.length - h.length, slots := slt h' - slt h, locals := L } (Pc_ D K B sd xs as h) (Qc_ D K B sd r h') (h'.length - h.length) (slt h' - slt h) (AB B))
    (hF : F ≤ R.frames) {Lr : Nat} (hLr : Lr ≤ R.locals) {h0l h0s : Nat} {r : Option MV} {h' : MH} (hcap : h'.length ≤ h0l + R.cells ∧ slt h' ≤ h0s + R.slots)
    (hret : ∀ (pc : Nat) (e0 : EN) (ls st : List MV), code_ mi pc = some e0 → kindI e0.1 = 1 → mret mi e0.1 st = some r → WG p l e R s m args below meth c Q D K B sd (mxM mi) h0l h0s pc ls st h') :
    ∀ (n pc : Nat) (ls st : List MV) (h : MH), goN xs F call n Lr mi pc ls st h = some (r, h') → WG p l e R s m args below meth c Q D K B sd (mxM mi) h0l h0s pc ls st h := by
  intro n
  induction n with
  | zero => intro pc ls st h hr; simp [goN] at hr
  | succ n ih =>
    intro pc ls st h hr
    unfold goN at hr
    cases hco : code_ mi pc with
    | none => rw [hco] at hr; cases hr
    | some e0 =>
      rw [hco] at hr
      dsimp only at hr
      by_cases h1 : kindI e0.1 = 1
      · rw [if_pos h1] at hr
        cases hm : mret mi e0.1 st with
        | none => rw [hm] at hr; cases hr
        | some z =>
          rw [hm] at hr
          simp only [Option.some.injEq, Prod.mk.injEq] at hr
          obtain ⟨rfl, rfl⟩ := hr
          exact hret pc e0 ls st hco h1 hm
      · rw [if_neg h1] at hr
        by_cases h2 : kindI e0.1 = 2
        · rw [if_pos h2] at hr
          cases hm : mcall F call Lr e0 st h with
          | none => rw [hm] at hr; cases hr
          | some z =>
            obtain ⟨st', h2'⟩ := z
            rw [hm] at hr
            have k1 := ih _ _ _ _ hr
            have hge2 := goN_ge hge _ _ _ _ _ _ _ _ _ hr
            obtain ⟨I, np, a, b, cst⟩ := e0
            have hok := code_ok hco
            have hX := eok_x hok
            obtain ⟨hx, hb, hml, hown, hts, hnm, hE, hB⟩ := bd
            have hsw : isSw I = false := by
              dsimp only at h2
              cases I <;> first | rfl | (simp [kindI] at h2; done)
            obtain ⟨hn, hd⟩ := eok_len hok hsw
            have hl3 : lenI I = 3 := by
              dsimp only at h2
              cases I <;> first | rfl | (simp [kindI] at h2; done)
            rw [hl3] at hn hd
            subst hn
            intro H locs lsA k j hk hj hP hz hS hL
            rcases mcall_some hm with ⟨rfl, rfl, hF1, hL1, hc8, q, rfl⟩ | ⟨hb5, as, rest, r1, hst, hal, hc8, hrm, hrecv, hcl, rfl⟩
            · -- Object's own
              obtain ⟨ix, rfl, hO⟩ : ∃ ix, I = .invokespecial ix ∧ (clsM mi, ix) ∈ OT := by
                dsimp only at h2
                cases I with
                | invokespecial ix =>
                  simp [eokX] at hX
                  exact ⟨ix, rfl, hX⟩
                | invokestatic ix => simp [eokX] at hX
                | invokevirtual ix => simp [eokX] at hX
                | _ => simp [kindI] at h2
              have hw2 : ∀ w ∈ A_obj2, w.before args s = true := fun w hw => hts w (O2_in w hw)
              refine W.objInit hx hb hown (hts _ (OT_in hO)) (hw2 _ (by simp [A_obj2])) (hw2 _ (by simp [A_obj2])) rfl (by rw [hml]; exact hL.2.1) rfl hd (by omega) ?_ ?_
              · have := cat_sum B sd st'
                show 2 * 0 + _ + 12 ≤ _
                rw [this]; omega
              · exact k1 H locs lsA k j hk hj hP hz hS hL
            · -- a call of ours
              have hKq : ∃ ix, (clsM mi, ix, b, a) ∈ KT ∧ ((I = .invokestatic ix ∧ (b = 0 ∨ b = 3)) ∨ (I = .invokevirtual ix ∧ b = 1) ∨ (I = .invokespecial ix ∧ (b = 2 ∨ b = 4))) := by
                dsimp only at h2
                cases I with
                | invokespecial ix =>
                  simp [eokX, hb5] at hX
                  exact ⟨ix, hX.1, Or.inr (Or.inr ⟨rfl, hX.2⟩)⟩
                | invokestatic ix =>
                  simp [eokX] at hX
                  exact ⟨ix, hX.1, Or.inl ⟨rfl, hX.2⟩⟩
                | invokevirtual ix =>
                  simp [eokX] at hX
                  exact ⟨ix, hX.1, Or.inr (Or.inl ⟨rfl, hX.2⟩)⟩
                | _ => simp [kindI] at h2
              obtain ⟨ix, hKT, hcase⟩ := hKq
              obtain ⟨hNM, hini, hc9⟩ := KT_ok _ hKT
              dsimp only at hNM hini hc9
              obtain ⟨w1, w2, w3, w4⟩ := KT_in hKT
              obtain ⟨Fr, hFr, hM⟩ := hcall _ a as h r1 h2' hNM hcl
              have hg2 := hge _ _ _ _ _ _ hcl
              obtain ⟨o1, o2, o3, o4⟩ := MI_ok a hNM
              have hg : GoodIn ALL (wsM a) := wsM_good hNM
              have hcin : (Jvm.Cond.initialized (yM a).cls).before args s = true := by rw [o3]; exact hts _ (CN_in o4)
              have hR9 : ({ frames := Fr, cells := h2'.length - h.length, slots := slt h2' - slt h, locals := Lr - (19 + mxM a) } : Room).frames + 1 ≤ R.frames ∧ 8 + (mxM a + 11) + ({ frames := Fr, cells := h2'.length - h.length, slots := slt h2' - slt h, locals := Lr - (19 + mxM a) } : Room).locals ≤ R.locals := ⟨Nat.le_trans hFr hF, by show 8 + (mxM a + 11) + (Lr - (19 + mxM a)) ≤ R.locals; omega⟩
              have hpre : ∀ U : State, U.heap = H → s.WarmedH U.vm → Pc_ D K B sd xs as h (as.map (cv B sd)).toArray U := fun U hU hW => ⟨rfl, by rw [hU]; exact hP, by rw [hU]; exact hz, hE.moved hW (fun q hq hA => by rw [hU]; exact hS.2.1 q hq hA)⟩
              have hc9' : ((rest.map (cv B sd)).map fun v => v.category).sum ≤ 8 := by rw [cat_sum]; exact hc8
              have fin : ∀ {st0 : List Value}, va_Run p l e R s m args below meth c H locs k j (h2'.length - h.length) (slt h2' - slt h) (F0 m pc lsA st0) (rest.map (cv B sd)) (Qc_ D K B sd r1 h2' (as.map (cv B sd)).toArray) (AB B) → W p l e R s m args below meth c H locs k j Q (F0 m pc lsA st0) := by
                intro st0 hr9
                refine my_call hr9 hS (fun H1 locs1 p1 z1 s1 => ?_)
                rw [push_map]
                exact k1 H1 locs1 lsA _ _ (by omega) (by omega) p1 z1 s1 hL
              have hf9 : k + (h2'.length - h.length) ≤ R.cells ∧ j + (slt h2' - slt h) ≤ R.slots := by constructor <;> omega
              have hst9 : st.map (cv B sd) = (as.map (cv B sd)).reverse ++ rest.map (cv B sd) := by rw [hst, List.map_append, List.map_reverse]
              rw [hst9]
              rcases hcase with ⟨rfl, hb9⟩ | ⟨rfl, rfl⟩ | ⟨rfl, hb9⟩
              · have hnn : as.length = npM a := by rw [hal]; unfold naC; rw [if_pos hb9]; rfl
                rcases hb9 with rfl | rfl
                · exact fin (va_runS (As := as.map (cv B sd)) (rest := rest.map (cv B sd)) ⟨hx, hb, hml, hown, hts⟩ hM ⟨callB_of (npM a) hts hg rfl rfl rfl hcin (hts _ (w1 (Or.inl rfl))) o1 hR9, hts _ (w2 (Or.inl rfl))⟩ ⟨Pc_blind, hpre⟩ rfl (by rw [List.length_map]; exact hnn) hL.2.1 rfl (lv_room hc9') hd hf9)
                · obtain ⟨z9, hz9, z1, z2, z3⟩ := NST_ok _ hKT (Or.inl rfl)
                  have hnw := hE.2.2.2 z9 hz9
                  rw [z1, z2, z3] at hnw
                  exact fin (va_runSN (As := as.map (cv B sd)) (rest := rest.map (cv B sd)) ⟨hx, hb, hml, hown, hts⟩ hM ⟨va_cnB (npM a) hts hg rfl rfl rfl hnw hcin o1 hR9, hts _ (w2 (Or.inr rfl)), trivial⟩ ⟨Pc_blind, hpre⟩ rfl (by rw [List.length_map]; exact hnn) hL.2.1 rfl (lv_room hc9') hd hf9)
              · -- a receiver
                obtain ⟨q, as', rfl, fs, hq⟩ : ∃ q as', as = vR q :: as' ∧ ∃ fs, h[q]? = some (.inl (clsM a, fs)) := by
                  simp only [recvOK] at hrecv
                  rcases as with _ | ⟨v, as'⟩
                  · simp at hrecv
                  · rcases v with z | z | z | z | z
                    · simp at hrecv
                    · simp at hrecv
                    · simp only at hrecv
                      cases hh : h[z]? with
                      | none => rw [hh] at hrecv; simp at hrecv
                      | some y =>
                        rw [hh] at hrecv
                        rcases y with ⟨ci, fs⟩ | ⟨y1, y2⟩
                        · simp at hrecv
                          exact ⟨z, as', rfl, fs, by rw [← hrecv]; exact hh⟩
                        · simp at hrecv
                    · simp at hrecv
                    · simp at hrecv
                have hnn : as'.length = npM a := by
                  have : (vR q :: as').length = npM a + 1 := by rw [hal]; rfl
                  simpa using this
                obtain ⟨⟨C, T, N⟩, hCL⟩ : ∃ z, CL[clsM a]? = some z := ⟨_, List.getElem?_eq_getElem (by exact hc9 rfl)⟩
                obtain ⟨t1, t2, t3, t4⟩ := CL_get hCL
                have hrv := va_recv hE.1 hP hCL (wd_at (K := K) (B := B) (sd := sd) hq)
                dsimp only at hrv
                rw [← t3, ← o3] at hrv
                refine fin (st0 := ((vR q :: as').map (cv B sd)).reverse ++ rest.map (cv B sd)) ?_
                have hs5 : ((vR q :: as').map (cv B sd)).reverse ++ rest.map (cv B sd) = (as'.map (cv B sd)).reverse ++ Value.ref (B + q) :: rest.map (cv B sd) := by simp [cv]
                exact va_runV (C := (yM a).cls) (b := B + q) (As := as'.map (cv B sd)) (rest := rest.map (cv B sd)) ⟨hx, hb, hml, hown, hts⟩ hM ⟨callB_of (npM a) hts hg rfl rfl rfl hcin (hts _ (w1 (Or.inr (Or.inl rfl)))) o1 hR9, hts _ (w3 (Or.inl rfl)), hts _ (w4 rfl)⟩ ⟨Pc_blind, hrv, hpre⟩ rfl (by rw [List.length_map]; exact hnn) hL.2.1 hs5 (lv_room hc9') hd hf9
              · obtain ⟨hi1, hi2⟩ := hini hb9
                have hb03 : ¬ (b = 0 ∨ b = 3) := by omega
                obtain ⟨q, as', rfl⟩ : ∃ q as', as = vR q :: as' := by
                  simp only [recvOK] at hrecv
                  have e0 : (b == 0) = false := by simp; omega
                  have e3 : (b == 3) = false := by simp; omega
                  rw [e0, e3] at hrecv
                  rcases as with _ | ⟨v, as'⟩
                  · simp at hrecv
                  · rcases v with z | z | z | z | z
                    · simp at hrecv
                    · simp at hrecv
                    · exact ⟨z, as', rfl⟩
                    · simp at hrecv
                    · simp at hrecv
                have hnn : as'.length = npM a := by
                  have : (vR q :: as').length = npM a + 1 := by rw [hal]; unfold naC; rw [if_neg hb03]
                  simpa using this
                refine fin (st0 := ((vR q :: as').map (cv B sd)).reverse ++ rest.map (cv B sd)) ?_
                have hs5 : ((vR q :: as').map (cv B sd)).reverse ++ rest.map (cv B sd) = (as'.map (cv B sd)).reverse ++ Value.ref (B + q) :: rest.map (cv B sd) := by simp [cv]
                have hwr : wsM a = Jvm.Cond.code (yM a) (byM a) (mxM a) none :: ALL := by unfold wsM; rw [hi2]
                rcases hb9 with rfl | rfl
                · exact va_runI (b := B + q) (As := as'.map (cv B sd)) (rest := rest.map (cv B sd)) ⟨hx, hb, hml, hown, hts⟩ hM ⟨callB_of (npM a) hts hg hwr rfl rfl hcin (hts _ (w1 (Or.inr (Or.inr rfl)))) o1 hR9, hi1, hts _ (w3 (Or.inr (Or.inl rfl)))⟩ ⟨Pc_blind, hpre⟩ rfl (by rw [List.length_map]; exact hnn) hL.2.1 hs5 (lv_room hc9') hd hf9
                · obtain ⟨z9, hz9, z1, z2, z3⟩ := NST_ok _ hKT (Or.inr rfl)
                  have hnw := hE.2.2.2 z9 hz9
                  rw [z1, z2, z3] at hnw
                  exact va_runIN (b := B + q) (As := as'.map (cv B sd)) (rest := rest.map (cv B sd)) ⟨hx, hb, hml, hown, hts⟩ hM ⟨va_cnB (npM a) hts hg hwr rfl rfl hnw hcin o1 hR9, hi1, hts _ (w3 (Or.inr (Or.inr rfl)))⟩ ⟨Pc_blind, hpre⟩ rfl (by rw [List.length_map]; exact hnn) hL.2.1 hs5 (lv_room hc9') hd hf9
        · rw [if_neg h2] at hr
          cases hs : sstep xs pc e0 ls st h with
          | none => rw [hs] at hr; cases hr
          | some z =>
            obtain ⟨pc', ls', st', h1'⟩ := z
            rw [hs] at hr
            have g1 := goN_ge hge _ _ _ _ _ _ _ _ _ hr
            exact step_all bd hco hs ⟨Nat.le_trans g1.1 hcap.1, Nat.le_trans g1.2 hcap.2⟩ (ih _ _ _ _ hr)
end MTS
theorem main_met {xs : List Int} : ∀ (F n Lr mi : Nat) (as : List MV) (h : MH) (r : Option MV) (h' : MH), exec xs F n Lr mi as h = some (r, h') → mi < NMc → ∀ (l : Launch) (D : va_G) (K : Nat → ClassId) (B : Nat) (sd : Nat → Nat),
    Met l (yM mi) (wsM mi) { frames := F - 1, cells := h'.length - h.length, slots := slt h' - slt h, locals := Lr } (Pc_ D K B sd xs as h) (Qc_ D K B sd r h') (h'.length - h.length) (slt h' - slt h) (AB B) := by
  intro F
  induction F with
  | zero => intro n Lr mi as h r h' hr; simp [exec] at hr
  | succ F ih =>
    intro n Lr mi as h r h' hr hmi l D K B sd
    obtain ⟨o1, o2, o3, o4⟩ := MI_ok mi hmi
    refine met_of (cc := byM mi) (maxL := mxM mi) (ret := retM mi) o2 rfl ?_
    intro p e s m args below meth c s₁ Bo hml hv
    obtain ⟨rfl, hP, hz, hE⟩ := hv
    have hx := Bo.exec
    have hb := Bo.bytes
    have hrt := Bo.returns
    have hts := atoms_spec (ws := wsM mi) Bo.pre
    have hown : s.vm.findClass (yM mi).cls = some m.cls := findClass_of_methodNamed Bo.named
    rw [o3] at hown
    have hlk := Bo.notSynchronized
    have hnm : meth.name = (yM mi).name := (name_of_methodNamed Bo.named Bo.method).1
    have hgo := exec_ge _ _ _ _ _ _ _ _ hr
    unfold exec at hr
    by_cases hl : (lay as).length ≤ mxM mi
    · rw [if_pos hl] at hr
      have bd : Bd p s m (as.map (cv B sd)).toArray meth c mi D K B sd xs := ⟨hx, hb, hml, hown, fun w hw => hts w (List.mem_cons_of_mem _ hw), fun z => by rw [hnm]; exact z, hE, by omega⟩
      rw [lg_entry_eq]
      have hLH := LH_entry (B := B) (sd := sd) hl
      generalize (lg_sl (as.map (cv B sd)) ++ List.replicate (mxM mi - (lg_sl (as.map (cv B sd))).length) Slot.unset).toArray = lsA at hLH ⊢
      refine body_sound bd (F := F) (fun L a as h r h' hq => exec_ge _ _ _ _ _ _ _ _ hq) (fun L a as h r h' ha hq => ?_) (by show F ≤ F + 1 - 1; omega) (Nat.le_refl _) (r := r) (h' := h') (h0l := h.length) (h0s := slt h) ⟨by show h'.length ≤ h.length + (h'.length - h.length); omega, by show slt h' ≤ slt h + (slt h' - slt h); omega⟩ ?_ n 0 (ini mi as) [] h hr s.heap [] lsA 0 0 rfl rfl hP hz va_S.rf hLH
      · cases F with
        | zero => simp [exec] at hq
        | succ F => exact ⟨F, Nat.le_refl _, ih n L a as h r h' hq ha l D K B sd⟩
      · intro pc e0 ls st hco hk1 hm H locs lsA k j hk hj hP hz hS hL
        obtain ⟨I, np, a, b, cst⟩ := e0
        have hok := code_ok hco
        have hkk : k = h'.length - h.length := by omega
        have hjj : j = slt h' - slt h := by omega
        rw [← hkk, ← hjj]
        have hq : ∀ t : State, t.heap = H → s.WarmedH t.vm → Qc_ D K B sd r h' (as.map (cv B sd)).toArray s (.returned (r.map (cv B sd))) t := fun t ht hW => ⟨rfl, by rw [ht]; exact hP, by rw [ht]; exact hz, hS.F ht⟩
        have hf : ∀ q ∈ locs, AB B q.base := hS.2.2
        cases I with
        | ireturn =>
          obtain ⟨hn, hd⟩ := eok_len hok rfl
          simp only [mret] at hm
          split at hm
          · next z =>
            split at hm
            · next hz9 =>
              cases hm
              rcases hz9 with h9 | ⟨h9, h10⟩
              · exact W.iret (v := Int32.ofInt z) hx hb (by rw [hrt, h9]) hq hf hd (hlocks := hlk)
              · refine W.zret (v := Int32.ofInt z) (ty := .boolean) hx hb (by rw [hrt, h9]) ?_ hq hf hd (hlocks := hlk)
                rcases h10 with rfl | rfl
                · exact nb0
                · exact nb1
            · cases hm
          · cases hm
        | lreturn =>
          obtain ⟨hn, hd⟩ := eok_len hok rfl
          simp only [mret] at hm
          split at hm
          · next z =>
            split at hm
            · next hz9 =>
              cases hm
              exact W.lret (v := Int64.ofInt z) hx hb (by rw [hrt, hz9]) hq hf hd (hlocks := hlk)
            · cases hm
          · cases hm
        | areturn =>
          obtain ⟨hn, hd⟩ := eok_len hok rfl
          simp only [mret] at hm
          split at hm
          · next z =>
            split at hm
            · next n9 hz9 =>
              cases hm
              exact W.aret (v := .ref (B + z)) (rt := .object n9) hx hb (by rw [hrt, hz9]) (Or.inl ⟨_, rfl⟩) (Or.inr ⟨_, rfl⟩) hq hf hd (hlocks := hlk)
            · cases hm
          · cases hm
        | return_ =>
          obtain ⟨hn, hd⟩ := eok_len hok rfl
          simp only [mret] at hm
          split at hm
          · split at hm
            · next hz9 =>
              cases hm
              exact W.vret hx hb (by rw [hrt, hz9]) hq hf hd (hlocks := hlk)
            · cases hm
          · cases hm
        | _ => simp [kindI] at hk1
    · rw [if_neg hl] at hr; cases hr
