-- ===== end of PART A; then your names; then what follows =====
/-! THE CLAIM OUT OF ONE WALK OF THE LAW'S BODY. Your part is whole_start (and what it stands on); all else here is the same for every law, but numbers. -/
def R_law : String := "FourRodsLaw"
def lw_P (b : Addr) (xs : List Int32) (args : Array Value) (s : State) : Prop := args = #[.ref b] ∧ s.IntsAt b xs ∧ xs.length ≤ 448 ∧ (Jvm.Cond.and given_1 narrow_1).before args s = true
def lw_Q (_ : Array Value) (s : State) (o : Outcome) (t : State) : Prop := o = .returned (some (.int 1)) ∧ Framed s o t [] 51 872
def lw_Z (below : List Frame) (a : Array Value) (s : State) : State → Prop := fun t => ∃ o, t.status = .running ∧ Ended t below o ∧ lw_Q a s o t
/-- the law's own end, with 1 on the stack, nothing written that was there before, its room as the claim has it -/
theorem lw_ret {p : Program} {l : Launch} {e : Env} {s : State} {m : MethodId} {below : List Frame} {meth : Method} {c : Code} {b : Nat} (hx : p.tables.exec = Jvm.exec) (hb : c.code = code) (hr : meth.sig.returnType = ret) (hlocks : meth.locks = false) {pc : Nat} {H : Heap} {ls : Array Slot} (hdg : decode code pc = .ok (.ireturn, 1)) : W p l e room_1 s m #[Value.ref b] below meth c H [] 51 872 (lw_Z below #[Value.ref b] s) (F0 m pc ls [.int 1]) := by
  intro T hT X
  obtain ⟨fs, hret, hrun, hended, hW, hframe⟩ := X.leave (v := some (.int 1)) (hlocks := hlocks) (fun h => by rw [hr] at h; cases h)
  have hmeth' : T.vm.method? m = some meth := X.method'
  refine ⟨T.setFrames fs, ?_, .returned (some (.int 1)), hrun, hended, rfl, ⟨_, rfl⟩, hW, hframe⟩
  jvm_step X.here [X.here.top, hx, hb, hdg, hmeth', hr, ret, narrow_b1]
  (try refine ⟨rfl, ?_⟩); (try refine ⟨rfl, ?_⟩)
  first | (intro acts; rw [hret _ acts rfl rfl rfl]) | rw [hret _ _ rfl rfl rfl]
  exact Steps.refl _
/-- what holds at the law's entry: the machine, the code, the tables' words (any of lw_tbl by 'hts w (by decide +kernel)'), the script of L ints xs at the cell b, what the Statement gives of the start (any of its parts by flat_of_before) -/
def lw_At (p : Program) (s : State) (m : MethodId) (meth : Method) (c : Code) (b L : Nat) (xs : Nat → Int32) : Prop :=
  p.tables.exec = Jvm.exec ∧ c.code = code ∧ meth.sig.returnType = ret ∧ c.maxLocals = 4 ∧ s.vm.findClass R_law = some m.cls ∧ (∀ w ∈ lw_tbl, w.before #[Value.ref b] s = true) ∧ va_X b L xs s s.heap ∧ b < s.heap.size ∧ meth.locks = false ∧ (Jvm.Cond.and given_1 narrow_1).before #[Value.ref b] s = true
-- ===== YOUR PART BEGINS =====
theorem st_of {args : Array Value} {s : State} {n : String} {vs : List Int} (hlen8 : vs.length = 8) (hl : (Jvm.Cond.laysStatic SOW n "[I").before args s = true) (hini : (Jvm.Cond.initialized SOW).before args s = true) (harr : (Jvm.Cond.arrayOf (.static SOW n "[I") .int).before args s = true)
    (hlen : (Jvm.Cond.eq (.length (.static SOW n "[I")) (.int 8)).before args s = true) (hel : ∀ j : Nat, j < 8 → (Jvm.Cond.eq (.elem (.static SOW n "[I") (.int (Int32.ofNat j))) (.int (fI vs j))).before args s = true) :
    ∃ t, va_Z SOW n "[I" (.ref t) (AB s.heap.size) s s.heap ∧ va_T .int t vs.length (fun j => .int (fI vs j)) (AB s.heap.size) s s.heap := by
  have hA : ∀ a : Nat, a < s.heap.size → ¬ AB s.heap.size a := fun a h => Nat.not_le.mpr h
  obtain ⟨t, ht, hT⟩ := va_Tof (tm := .static SOW n "[I") (ty := .int) (N := 8) (f := fun j => .int (fI vs j)) (A := AB s.heap.size) (by decide) harr (va_eqt hlen) (fun j hj => va_eqt (hel j hj)) hA
  rw [hlen8]
  exact ⟨t, va_Zref hl hini ht hA, hT⟩
set_option maxHeartbeats 4000000 in
set_option maxRecDepth 100000 in
theorem env_start {s : State} {b L : Nat} {xs : Nat → Int32} (hts : ∀ w ∈ lw_tbl, w.before #[Value.ref b] s = true) (hX : va_X b L xs s s.heap) (hbl : b < s.heap.size) (hgv : (Jvm.Cond.and given_1 narrow_1).before #[Value.ref b] s = true) :
    ∃ (D : va_G) (K : Nat → ClassId) (sd : Nat → Nat), EnvU D K s.heap.size sd ((List.range L).map (fun j => (xs j).toInt)) s ∧ sd 3 = b := by
  have htA : ∀ w ∈ ALL, w.before #[Value.ref b] s = true := fun w hw => hts w (ALL_in w hw)
  have hs := flat_of_before _ hgv
  have kn : ∀ a, a < 9 → ∃ (C : String) (T : u_T) (N : Nat) (cC : ClassId) (iS : Nat → Nat), CL[a]? = some (C, T, N) ∧ u_Kn s C T N cC iS := by
    intro a ha
    obtain ⟨⟨C, T, N⟩, hCL⟩ : ∃ z, CL[a]? = some z := ⟨_, List.getElem?_eq_getElem (by exact ha)⟩
    obtain ⟨t1, t2, t3, t4⟩ := CL_get hCL
    have hinst : Jvm.Cond.instantiable C N ∈ lw_tbl := by
      have h9 : ∀ k, k < 9 → Jvm.Cond.instantiable (cnm k) (nfC k) ∈ lw_tbl := inst_in
      have := h9 a ha
      rwa [t3, t4] at this
    obtain ⟨cC, iS, hK⟩ := u_known (C := C) (T := T) (N := N) (n := N) htA (CL_in hCL) (hts _ hinst)
    exact ⟨C, T, N, cC, iS, hCL, hK⟩
  obtain ⟨D, hD⟩ : ∃ D : va_G, ∀ (a : Nat) (q : vw_C), CL[a]? = some q → u_Kn s q.1 q.2.1 q.2.2 (D.1 a) (D.2 a) := by
    have h : ∀ a : Nat, ∃ z : ClassId × (Nat → Nat), ∀ q : vw_C, CL[a]? = some q → u_Kn s q.1 q.2.1 q.2.2 z.1 z.2 := by
      intro a
      by_cases ha : a < 9
      · obtain ⟨C, T, N, cC, iS, hCL, hK⟩ := kn a ha
        refine ⟨(cC, iS), fun q hq => ?_⟩
        rw [hCL] at hq
        cases hq
        exact hK
      · refine ⟨(0, fun _ => 0), fun q hq => ?_⟩
        rw [List.getElem?_eq_none (by show 9 ≤ a; omega)] at hq
        cases hq
    exact ⟨(fun a => (Classical.choose (h a)).1, fun a => (Classical.choose (h a)).2), fun a q hq => Classical.choose_spec (h a) q hq⟩
  have arr : ∀ t : FieldType, t = .int ∨ t = .long ∨ t = .boolean → ∃ cA, ArrOfT s cA t ∧ va_RA s cA t := by
    intro t ht
    obtain ⟨cA, kA, comp, h1, h2, h3⟩ := Cond.arrayClass_spec (htA _ (AR_in ht))
    refine ⟨cA, fun n z => ⟨fun k h => (by cases h), kA, h2, comp, h3⟩, ?_⟩
    rcases ht with rfl | rfl | rfl <;> exact h1
  obtain ⟨k0, a0⟩ := arr .int (Or.inl rfl)
  obtain ⟨k1, a1⟩ := arr .long (Or.inr (Or.inl rfl))
  obtain ⟨k2, a2⟩ := arr .boolean (Or.inr (Or.inr rfl))
  have hini : (Jvm.Cond.initialized SOW).before #[Value.ref b] s = true := htA _ (CN_in (o := 11) (by decide))
  obtain ⟨t0, z0, T0⟩ := st_of (vs := SA [] 0) (n := "SIDES") rfl (hts _ lays0) hini (hs _ (by decide +kernel)) (hs _ (by decide +kernel)) (fun j hj => hs _ ((by decide +kernel : ∀ j, j < 8 → Jvm.Cond.eq (.elem (.static SOW "SIDES" "[I") (.int (Int32.ofNat j))) (.int (fI (SA [] 0) j)) ∈ flatC (Jvm.Cond.and given_1 narrow_1)) j hj))
  obtain ⟨t1, z1, T1⟩ := st_of (vs := SA [] 1) (n := "MEN") rfl (hts _ lays1) hini (hs _ (by decide +kernel)) (hs _ (by decide +kernel)) (fun j hj => hs _ ((by decide +kernel : ∀ j, j < 8 → Jvm.Cond.eq (.elem (.static SOW "MEN" "[I") (.int (Int32.ofNat j))) (.int (fI (SA [] 1) j)) ∈ flatC (Jvm.Cond.and given_1 narrow_1)) j hj))
  obtain ⟨t2, z2, T2⟩ := st_of (vs := SA [] 2) (n := "GAPS") rfl (hts _ lays2) hini (hs _ (by decide +kernel)) (hs _ (by decide +kernel)) (fun j hj => hs _ ((by decide +kernel : ∀ j, j < 8 → Jvm.Cond.eq (.elem (.static SOW "GAPS" "[I") (.int (Int32.ofNat j))) (.int (fI (SA [] 2) j)) ∈ flatC (Jvm.Cond.and given_1 narrow_1)) j hj))
  refine ⟨D, fun k => if k = 0 then k0 else if k = 1 then k1 else k2, fun k => if k = 0 then t0 else if k = 1 then t1 else if k = 2 then t2 else b, ⟨⟨hD, ?_⟩, ?_, ?_, ?_⟩, rfl⟩
  · intro k q hq
    match k, hq with
    | 0, hq => cases hq; exact a0
    | 1, hq => cases hq; exact a1
    | 2, hq => cases hq; exact a2
    | k + 3, hq => simp at hq
  · intro k n hn
    match k, hn with
    | 0, hn => cases hn; exact z0
    | 1, hn => cases hn; exact z1
    | 2, hn => cases hn; exact z2
    | k + 3, hn => simp [SNm] at hn
  · intro k hk
    match k, hk with
    | 0, _ => exact T0
    | 1, _ => exact T1
    | 2, _ => exact T2
    | 3, _ =>
      obtain ⟨scr, h1, h2, h3, h4, h5⟩ := hX
      have hlen : (SA ((List.range L).map (fun j => (xs j).toInt)) 3).length = L := by simp [SA]
      refine ⟨scr, h1, h2, h3, (Nat.le_of_eq (by rw [hlen, h4])), (by rw [hlen, h4]; first | done | rfl), fun j hj => ?_, Nat.not_le.mpr hbl⟩
      rw [hlen] at hj
      rw [h5 j hj]
      have : fI (SA ((List.range L).map (fun j => (xs j).toInt)) 3) j = xs j := by
        show Int32.ofInt (((List.range L).map (fun j => (xs j).toInt)).getD j 0) = xs j
        rw [List.getD_eq_getElem?_getD, List.getElem?_map, List.getElem?_range hj]
        exact n_ofTo (xs j)
      show some (Value.int (xs j)) = some (Value.int (fI (SA ((List.range L).map (fun j => (xs j).toInt)) 3) j))
      rw [this]
  · intro q hq
    exact va_Nw.of rfl (hts _ (NST_in _ (List.mem_map.mpr ⟨q, hq, rfl⟩)))
set_option maxHeartbeats 4000000 in
theorem whole_start {p : Program} {e : Env} {s : State} {m : MethodId} {below : List Frame} {meth : Method} {c : Code} (l : Launch) (hflags : l.flags = flags0) {b L : Nat} {xs : Nat → Int32} (hL : L ≤ 448) (C0 : lw_At p s m meth c b L xs) : W p l e room_1 s m #[Value.ref b] below meth c s.heap [] 0 0 (lw_Z below #[Value.ref b] s) (entryFrame m ([Value.ref b] : List Value).toArray 4) := by
  obtain ⟨hx, hb, hr, hml, hown, hts, hX, hbl, hlocks, hgv⟩ := C0
  obtain ⟨D, K, sd, hE, hsd⟩ := env_start hts hX hbl hgv
  generalize hxi : (List.range L).map (fun j => (xs j).toInt) = xi at hE
  obtain ⟨h', ⟨n, hn⟩, hc1, hc2⟩ := law_Rn xi (by
    intro z hz
    rw [← hxi] at hz
    obtain ⟨j, -, rfl⟩ := List.mem_map.mp hz
    have := Int32.le_toInt (xs j)
    have := Int32.toInt_lt (xs j)
    constructor <;> omega) (by rw [← hxi]; simp; exact hL)
  have hn2 := goN_mono (fun L L' a as h r hL hr => exec_mono (FDp m_Law_law) 13 n n L L' a as h r (by decide +kernel) (Nat.le_refl _) hL hr) (F' := 13) (by decide +kernel) n n (LDp m_Law_law) 490 m_Law_law 0 _ _ _ _ (Nat.le_refl _) (by decide +kernel) hn
  have bd : Bd p s m #[Value.ref b] meth c m_Law_law D K s.heap.size sd xi := ⟨hx, hb, hml, hown, fun w hw => hts w (ALL_in w hw), (fun z => absurd z (by decide +kernel)), hE, Nat.le_refl _⟩
  rw [lg_entry_eq]
  have hl := lv_entry ([.ref b]) (n := 4) (Nat.le_of_ble_eq_true rfl)
  generalize (lg_sl ([.ref b]) ++ List.replicate (4 - (lg_sl ([.ref b])).length) Slot.unset).toArray = lsA at hl ⊢
  have hLH : LH s.heap.size sd lsA 4 [vS 3, vU, vU, vU] := by
    refine ⟨rfl, hl.1, hl.2.1, fun q hq => hl.2.2 q ?_⟩
    obtain ⟨v, h1, h2, h3⟩ := lvl_mem.mp hq
    obtain ⟨i, val⟩ := q
    dsimp only at h1 h3
    match i, h1 with
    | 0, h1 => cases h1; rw [h3]; show _ ∈ [(0, Value.ref b)]; simp [cv, hsd]
    | 1, h1 => cases h1; simp [isU] at h2
    | 2, h1 => cases h1; simp [isU] at h2
    | 3, h1 => cases h1; simp [isU] at h2
    | i + 4, h1 => simp at h1
  refine body_sound (R := room_1) bd (F := 13) (fun L a as h r h' hq => exec_ge _ _ _ _ _ _ _ _ hq) (fun L a as h r h' ha hq => ⟨12, Nat.le_refl _, main_met 13 n L a as h r h' hq ha l D K s.heap.size sd⟩) (Nat.le_refl _) (Nat.le_refl _) (r := some (vI 1)) (h' := h') (h0l := 0) (h0s := 0) ⟨by show h'.length ≤ 0 + 51; omega, by show slt h' ≤ 0 + 872; omega⟩ ?_ n 0 _ _ [] hn2 s.heap [] lsA 0 0 rfl rfl (fun k q h => by simp [wd] at h) (Nat.add_zero _).symm va_S.rf hLH
  intro pc e0 ls st hco hk1 hm H locs lsB k j hk hj hP hz hS hLb
  obtain ⟨I, np, a, b9, cst⟩ := e0
  have hok := code_ok hco
  cases I with
  | ireturn =>
    obtain ⟨hn3, hd⟩ := eok_len hok rfl
    simp only [mret] at hm
    split at hm
    · next z =>
      split at hm
      · cases hm
        refine va_forget hS.2.2 (W.widen (k := 51) (n := 872) (by omega) (by omega) ?_)
        exact lw_ret hx hb hr hlocks hd
      · cases hm
    · cases hm
  | lreturn =>
    simp only [mret] at hm
    split at hm
    · split at hm
      · cases hm
      · cases hm
    · cases hm
  | areturn =>
    simp only [mret] at hm
    split at hm
    · split at hm
      · cases hm
      · cases hm
    · cases hm
  | return_ =>
    simp only [mret] at hm
    split at hm
    · split at hm
      · cases hm
      · cases hm
    · cases hm
  | _ => simp [kindI] at hk1
-- ===== YOUR PART ENDS =====
set_option maxHeartbeats 4000000 in
theorem lw_walk (l : Launch) (hflags : l.flags = flags0) (b : Addr) (xs : List Int32) : MetFree l x (headSpec (Jvm.Cond.code x code maxLocals ret :: tables_1) room_1) (lw_P b xs) (fun _ _ _ _ _ => True) lw_Q := by
  refine MetFree.of_bodyS (code := code) (maxLocals := maxLocals) (ret := ret) (by decide) ?_ ?_
  · intro args s m h hn
    obtain ⟨meth, c, h1, h2, h3, h4, h5, h6, -, -⟩ := Cond.code_spec hn (atoms_spec (ws := Jvm.Cond.code x code maxLocals ret :: tables_1) h _ List.mem_cons_self)
    exact ⟨meth, c, h1, h2, h3, h4, h5, h6⟩
  · intro p e s m args below meth c s₁ B hml0 hP _
    obtain ⟨rfl, hx, hbd, hgv⟩ := hP
    obtain ⟨scr, harrAt, hlist, hof, hsmall⟩ := hx
    obtain ⟨hcb, hkn, -, -⟩ := State.arrayAt?_spec harrAt
    have hown : s.vm.findClass R_law = some m.cls := findClass_of_methodNamed B.named
    have hts0 : ∀ c ∈ (Jvm.Cond.code x code maxLocals ret :: tables_1), c.before #[Value.ref b] s = true := atoms_spec (ws := Jvm.Cond.code x code maxLocals ret :: tables_1) B.pre
    have hts : ∀ w ∈ lw_tbl, w.before #[Value.ref b] s = true := k2_hts_sels lw_privs (fun w hw => hts0 w (List.mem_cons_of_mem _ hw)) lw_privs_ok
    have hml : c.maxLocals = 4 := B.maxLocals_eq (hts0 _ List.mem_cons_self)
    have X₀ : Stand p l e room_1 s m #[Value.ref b] below meth c s₁ [] 0 0 := Stand.of_body B
    have hh0 : s₁.heap = s.heap := by rw [B.state]; rfl
    have hsz : scr.slots.size = xs.length := by rw [← Array.length_toList, hlist, List.length_map]
    have hval : ∀ j : Nat, j < xs.length → scr.slots[j]? = some (.int (xs.getD j 0)) := fun j hj => by
      rw [← Array.getElem?_toList, hlist]
      simp [hj]
    have hbl : b < s.heap.size := (Array.getElem?_eq_some_iff.mp hcb).1
    have hX : va_X b xs.length (fun j => xs.getD j 0) s s.heap := ⟨scr, hcb, hof, hkn, hsz, hval⟩
    have K : W p l e room_1 s m #[Value.ref b] below meth c s₁.heap [] 0 0 (lw_Z below #[Value.ref b] s) (entryFrame m ([Value.ref b] : List Value).toArray 4) := by
      rw [hh0]
      exact whole_start l hflags hbd ⟨B.exec, B.bytes, B.returns, hml, hown, hts, hX, hbl, B.notSynchronized, hgv⟩
    obtain ⟨t, a1, o, b1, b2, b3⟩ := K s₁ rfl X₀
    exact ⟨t, o, a1, b1, b2, b3⟩
theorem lw_pre_spec {args : Array Value} {s : State} (h : (Jvm.Cond.and given_1 narrow_1).before args s = true) (hr : rest_1_c.before args s = true) : ∃ (b : Addr) (xs : List Int32), lw_P b xs args s := by
  have hs := flat_of_before _ h
  have hq := flat_of_before _ hr
  have hc : (Cond.count 1).before args s = true := hs _ (by decide +kernel)
  have harr : (Cond.arrayOf (.arg 0) .int).before args s = true := hs _ (by decide +kernel)
  have hle : (Cond.le (.length (.arg 0)) (.int 448)).before args s = true := hs _ (by decide +kernel)
  have hlen : (Cond.isInt (.length (.arg 0))).before args s = true := hq _ (by decide +kernel)
  have hall : (Cond.all (.arg 0) (.isInt (.elem (.arg 0) (.index 0)))).before args s = true := hq _ (by decide +kernel)
  obtain ⟨b, xs, hb, hx⟩ := State.ints_of_pre rfl harr hlen hall
  have hsm : xs.length < 2 ^ 31 := hx.choose_spec.2.2.2
  have hev : (Term.length (.arg 0)).eval args s none [] s = some (.int xs.length.toInt32) := hx.length_eval hb
  have hv := Cond.le_ints hev (show (Term.int 448).eval args s none [] s = some (.int 448) from rfl)
  have hd : xs.length.toInt32 ≤ 448 := by
    simpa [Cond.before, Cond.holds, hv] using hle
  have hN : xs.length ≤ 448 := (Int32.ofNat_le_ofNat hsm (by decide)).mp (show Int32.ofNat xs.length ≤ Int32.ofNat 448 from hd)
  exact ⟨b, xs, Cond.one_arg hc (show args[0]? = some (.ref b) from hb), hx, hN, h⟩
theorem lw_comes (l : Launch) (hflags : l.flags = flags0) : Comes l x (Jvm.Cond.code x code maxLocals ret :: tables_1) room_1 (fun tb e args s => Calls_1 tb e args s ∧ rest_1 tb e args s ∧ Pre_1 tb e args s)
    (fun _ _ args s o t => lw_Q args s o t) := by
  intro p e ha hc hk s m args below hf hfit hheap happ hpre
  obtain ⟨b, xs, hP⟩ := lw_pre_spec hpre.2.2 hpre.2.1
  obtain ⟨k, o, h1, h2, h3, hQ⟩ := lw_walk l hflags b xs p e ha hc hk s m args below hf ((Spec.applies_iff_loose hf).mp happ).1 hP trivial
  exact ⟨k, o, h1, h2, h3, hQ⟩
theorem lw_frame {s t : State} {o : Outcome} {args : Array Value} (h : Framed s o t [] 51 872) :
    Framed s o t (fieldLocs frame_1_writes args s ++ arrayLocs frame_1_arrays args s ++ staticLocs frame_1_statics s) 51 872 := h
theorem lw_limb (L : Cond) (hL : ∀ (args : Array Value) (s t : State), L.after args s (.returned (some (.int 1))) t = true) :
    ArmFor flags0 classFile x code maxLocals ret World_1 tables_1 room_1 Calls_1 rest_1 Pre_1
      (fun tb e a s o t => postC L tb e a s o t ∧ Framed s o t (fieldLocs frame_1_writes a s ++ arrayLocs frame_1_arrays a s ++ staticLocs frame_1_statics s) 51 872) := by
  intro l hflags _ _ p e ha hc hk s m args below hf hfit hheap happ hpre
  obtain ⟨k, o, h1, h2, h3, rfl, hF⟩ := lw_comes l hflags p e ha hc hk s m args below hf hfit hheap happ hpre
  exact ⟨k, _, h1, h2, h3, hL args s _, lw_frame hF⟩
theorem i_vc : Claimed_1_1 ∧ Claimed_1_2 := ⟨lw_limb limb_1_1 (fun args s t => by simp [limb_1_1, Cond.after, Cond.holds, Cond.value]), lw_limb limb_1_2 (fun args s t => Cond.after_iff.mpr (by
  first | (rw [show limb_1_2 = Cond.eq .result (.int 1) from rfl, Cond.eq_ints (x := 1) (y := 1) rfl rfl]; simp; done) | (simp [limb_1_2, Cond.value, Term.eval]; done)))⟩
