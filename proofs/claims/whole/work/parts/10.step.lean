-- one step of the small machine is a step of the machine
def isU : MV → Bool
  | .inr (.inr (.inr (.inr _))) => true
  | _ => false
def lvl (B : Nat) (sd : Nat → Nat) (ls : List MV) : List (Nat × Value) := (List.range ls.length).filterMap (fun i => match ls[i]? with
  | some v => if isU v then none else some (i, cv B sd v)
  | none => none)
theorem lvl_mem {B : Nat} {sd : Nat → Nat} {ls : List MV} {q : Nat × Value} : q ∈ lvl B sd ls ↔ ∃ v, ls[q.1]? = some v ∧ isU v = false ∧ q.2 = cv B sd v := by
  unfold lvl
  rw [List.mem_filterMap]
  constructor
  · rintro ⟨i, -, h⟩
    cases hv : ls[i]? with
    | none => rw [hv] at h; cases h
    | some v =>
      rw [hv] at h
      dsimp only at h
      cases hu : isU v with
      | true => rw [hu] at h; simp at h
      | false =>
        rw [hu] at h
        simp at h
        subst h
        exact ⟨v, hv, hu, rfl⟩
  · rintro ⟨v, h1, h2, h3⟩
    refine ⟨q.1, List.mem_range.mpr (List.getElem?_eq_some_iff.mp h1).1, ?_⟩
    rw [h1]
    dsimp only
    rw [h2, ← h3]
    rfl
def LH (B : Nat) (sd : Nat → Nat) (lsA : Array Slot) (nL : Nat) (ls : List MV) : Prop := ls.length = nL ∧ lv_has lsA nL (lvl B sd ls)
theorem LH.get {B : Nat} {sd : Nat → Nat} {lsA : Array Slot} {nL : Nat} {ls : List MV} {i : Nat} {v : MV} (h : LH B sd lsA nL ls) (hi : ls[i]? = some v) (hu : isU v = false) : lsA[i]? = some (.val (cv B sd v)) := h.2.2.2 (i, cv B sd v) (lvl_mem.mpr ⟨v, hi, hu, rfl⟩)
theorem cv_cat (B : Nat) (sd : Nat → Nat) (v : MV) : (cv B sd v).category = mcat v := by
  rcases v with z | z | k | k | b <;> rfl
theorem mClean_len (ls : List MV) (k : Nat) : (mClean ls k).length = ls.length := by
  unfold mClean
  split
  · rfl
  · split
    · rw [List.length_set]
    · rfl
theorem mClean_get {ls : List MV} {k j : Nat} {v : MV} (h : (mClean ls k)[j]? = some v) (hu : isU v = false) : ls[j]? = some v ∧ (j + 1 = k → mcat v ≠ 2) := by
  unfold mClean at h
  split at h
  · exact ⟨h, fun z => by omega⟩
  · next i =>
    split at h
    · next z hz =>
      by_cases hj : i = j
      · subst hj
        have hl : i < ls.length := (List.getElem?_eq_some_iff.mp hz).1
        rw [List.getElem?_set_self hl] at h
        cases h
        simp [isU] at hu
      · rw [List.getElem?_set_ne hj] at h
        exact ⟨h, fun z => by omega⟩
    · next hz =>
      refine ⟨h, fun hj hc => ?_⟩
      have hij : j = i := by omega
      subst hij
      rcases v with z | z | k | k | b
      · simp [mcat] at hc
      · exact hz z h
      · simp [mcat] at hc
      · simp [mcat] at hc
      · simp [mcat] at hc
theorem mSt1_len (ls : List MV) (k : Nat) (v : MV) : (mSt1 ls k v).length = ls.length := by unfold mSt1; rw [List.length_set, mClean_len]
theorem mSt2_len (ls : List MV) (k : Nat) (v : MV) : (mSt2 ls k v).length = ls.length := by unfold mSt2; rw [List.length_set, List.length_set, mClean_len]
theorem LH.st1 {B : Nat} {sd : Nat → Nat} {lsA lsB : Array Slot} {nL : Nat} {ls : List MV} {k : Nat} {v : MV} (h : LH B sd lsA nL ls) (h' : lv_has lsB nL ((k, cv B sd v) :: (lvl B sd ls).filter (fun q => !(q.1 == k) && !(q.1 + 1 == k && q.2.category == 2)))) : LH B sd lsB nL (mSt1 ls k v) := by
  refine ⟨by rw [mSt1_len]; exact h.1, h'.1, h'.2.1, fun q hq => h'.2.2 q ?_⟩
  obtain ⟨i, val⟩ := q
  obtain ⟨w, hw, hu, he⟩ := lvl_mem.mp hq
  dsimp only at hw he
  subst he
  unfold mSt1 at hw
  by_cases hk : k = i
  · subst hk
    have hl := (List.getElem?_eq_some_iff.mp hw).1
    rw [List.length_set] at hl
    rw [List.getElem?_set_self hl] at hw
    cases hw
    exact List.mem_cons_self
  · rw [List.getElem?_set_ne hk] at hw
    obtain ⟨h1, h2⟩ := mClean_get hw hu
    refine List.mem_cons_of_mem _ (List.mem_filter.mpr ⟨lvl_mem.mpr ⟨w, h1, hu, rfl⟩, ?_⟩)
    have e1 : (i == k) = false := by simp; exact fun z => hk z.symm
    dsimp only
    rw [cv_cat, e1]
    by_cases hj : i + 1 = k
    · have := h2 hj
      simp [this]
    · simp [hj]
theorem LH.st2 {B : Nat} {sd : Nat → Nat} {lsA lsB : Array Slot} {nL : Nat} {ls : List MV} {k : Nat} {v : MV} (h : LH B sd lsA nL ls) (h' : lv_has lsB nL ((k, cv B sd v) :: (lvl B sd ls).filter (fun q => !(q.1 == k) && (!(q.1 == k + 1) && !(q.1 + 1 == k && q.2.category == 2))))) : LH B sd lsB nL (mSt2 ls k v) := by
  refine ⟨by rw [mSt2_len]; exact h.1, h'.1, h'.2.1, fun q hq => h'.2.2 q ?_⟩
  obtain ⟨i, val⟩ := q
  obtain ⟨w, hw, hu, he⟩ := lvl_mem.mp hq
  dsimp only at hw he
  subst he
  unfold mSt2 at hw
  by_cases hk : k = i
  · subst hk
    have hl := (List.getElem?_eq_some_iff.mp hw).1
    rw [List.length_set] at hl
    rw [List.getElem?_set_self hl] at hw
    cases hw
    exact List.mem_cons_self
  · rw [List.getElem?_set_ne hk] at hw
    by_cases hk1 : k + 1 = i
    · subst hk1
      have hl := (List.getElem?_eq_some_iff.mp hw).1
      rw [List.length_set] at hl
      rw [List.getElem?_set_self hl] at hw
      cases hw
      simp [isU] at hu
    · rw [List.getElem?_set_ne hk1] at hw
      obtain ⟨h1, h2⟩ := mClean_get hw hu
      refine List.mem_cons_of_mem _ (List.mem_filter.mpr ⟨lvl_mem.mpr ⟨w, h1, hu, rfl⟩, ?_⟩)
      have e1 : (i == k) = false := by simp; exact fun z => hk z.symm
      have e2 : (i == k + 1) = false := by simp; exact fun z => hk1 z.symm
      dsimp only
      rw [cv_cat, e1, e2]
      by_cases hj : i + 1 = k
      · have := h2 hj
        simp [this]
      · simp [hj]
def EnvU (D : va_G) (K : Nat → ClassId) (B : Nat) (sd : Nat → Nat) (xs : List Int) (U : State) : Prop :=
  va_K D CL [(K 0, .int), (K 1, .long), (K 2, .boolean)] U ∧ (∀ k n, SNm[k]? = some n → va_Z SOW n "[I" (.ref (sd k)) (AB B) U U.heap) ∧ (∀ k, k < 4 → va_T .int (sd k) (SA xs k).length (fun j => .int (fI (SA xs k) j)) (AB B) U U.heap) ∧ ∀ q ∈ NST, va_Nw (.methodLinkNest (cnm q.1) q.2.1 (yM q.2.2.1) q.2.2.2) U
theorem EnvU.moved {D : va_G} {K : Nat → ClassId} {B : Nat} {sd : Nat → Nat} {xs : List Int} {s U : State} (h : EnvU D K B sd xs s) (hW : s.WarmedH U.vm) (hk : ∀ a : Nat, a < s.heap.size → ¬ AB B a → U.heap[a]? = s.heap[a]?) : EnvU D K B sd xs U :=
  ⟨va_K.moved hW.alike h.1, fun k n hn => (va_Z.moved hW.alike (h.2.1 k n hn)).kept hk, fun k hk4 => (va_T.moved hW.alike (h.2.2.1 k hk4)).kept hk, fun q hq => va_Nw.warmM hW (h.2.2.2 q hq)⟩
def Bd (p : Program) (s : State) (m : MethodId) (args : Array Value) (meth : Method) (c : Code) (mi : Nat) (D : va_G) (K : Nat → ClassId) (B : Nat) (sd : Nat → Nat) (xs : List Int) : Prop :=
  p.tables.exec = Jvm.exec ∧ c.code = byM mi ∧ c.maxLocals = mxM mi ∧ s.vm.findClass (cnm (clsM mi)) = some m.cls ∧ (∀ w ∈ ALL, w.before args s = true) ∧ ((yM mi).name = "<init>" → meth.name = "<init>") ∧ EnvU D K B sd xs s ∧ B ≤ s.heap.size
theorem eok_len {m pc np a b : Nat} {I : Instr} {c : Int} (h : eok m (pc, I, np, a, b, c) = true) (hs : isSw I = false) : np = pc + lenI I ∧ decode (byM m) pc = .ok (I, lenI I) := by
  simp only [eok, Bool.and_eq_true, Bool.or_eq_true, decide_eq_true_eq, hs, Bool.false_eq_true, false_or] at h
  obtain ⟨⟨⟨h1, h2⟩, h3⟩, -⟩ := h
  refine ⟨h3, ?_⟩
  rw [h1, h3, Nat.add_sub_cancel_left]
theorem eok_dec {m pc np a b : Nat} {I : Instr} {c : Int} (h : eok m (pc, I, np, a, b, c) = true) : decode (byM m) pc = .ok (I, np - pc) := by
  simp only [eok, Bool.and_eq_true, decide_eq_true_eq] at h
  exact h.1.1.1
theorem eok_x {m pc np a b : Nat} {I : Instr} {c : Int} (h : eok m (pc, I, np, a, b, c) = true) : eokX m pc I a b c = true := by
  simp only [eok, Bool.and_eq_true] at h
  exact h.2
theorem s1_some {α : Type} {st : List MV} {f : Int → List MV → Option α} {v : α} (h : s1 st f = some v) : ∃ x r, st = vI x :: r ∧ f x r = some v := by
  unfold s1 at h
  split at h
  · exact ⟨_, _, rfl, h⟩
  · cases h
theorem s2_some {α : Type} {st : List MV} {f : Int → Int → List MV → Option α} {v : α} (h : s2 st f = some v) : ∃ x y r, st = vI y :: vI x :: r ∧ f x y r = some v := by
  unfold s2 at h
  split at h
  · exact ⟨_, _, _, rfl, h⟩
  · cases h
theorem l1_some {α : Type} {st : List MV} {f : Int → List MV → Option α} {v : α} (h : l1 st f = some v) : ∃ x r, st = vL x :: r ∧ f x r = some v := by
  unfold l1 at h
  split at h
  · exact ⟨_, _, rfl, h⟩
  · cases h
theorem l2_some {α : Type} {st : List MV} {f : Int → Int → List MV → Option α} {v : α} (h : l2 st f = some v) : ∃ x y r, st = vL y :: vL x :: r ∧ f x y r = some v := by
  unfold l2 at h
  split at h
  · exact ⟨_, _, _, rfl, h⟩
  · cases h
theorem some4 {a a' : Nat} {b b' c c' : List MV} {d d' : MH} (h : (some (a, b, c, d) : SR) = some (a', b', c', d')) : a = a' ∧ b = b' ∧ c = c' ∧ d = d' := by
  simp only [Option.some.injEq, Prod.mk.injEq] at h
  exact h
theorem if_some {P : Prop} [h9 : Decidable P] {x : SR} {v : Nat × List MV × List MV × MH} (h : (if P then x else none) = some v) : P ∧ x = some v := by
  by_cases hp : P
  · rw [if_pos hp] at h; exact ⟨hp, h⟩
  · rw [if_neg hp] at h; cases h
theorem CL_get {a : Nat} {C : String} {T : u_T} {N : Nat} (h : CL[a]? = some (C, T, N)) : (∀ k, k < N → parseFieldDescriptor (T k).2.2.1 = some (tyC a k)) ∧ (∀ x, x < N → ∀ y, y < N → x ≠ y → (T x).2.1 ≠ (T y).2.1) ∧ cnm a = C ∧ nfC a = N := by
  match a, h with

  | 0, h => cases h; exact ⟨tyX1_ok, nmX1, rfl, rfl⟩
  | 1, h => cases h; exact ⟨tyX2_ok, nmX2, rfl, rfl⟩
  | 2, h => cases h; exact ⟨tyX4_ok, nmX4, rfl, rfl⟩
  | 3, h => cases h; exact ⟨tyX5_ok, nmX5, rfl, rfl⟩
  | 4, h => cases h; exact ⟨tyX6_ok, nmX6, rfl, rfl⟩
  | 5, h => cases h; exact ⟨tyX8_ok, nmX8, rfl, rfl⟩
  | 6, h => cases h; exact ⟨tyX9_ok, nmX9, rfl, rfl⟩
  | 7, h => cases h; exact ⟨tyX10_ok, nmX10, rfl, rfl⟩
  | 8, h => cases h; exact ⟨tyX11_ok, nmX11, rfl, rfl⟩
  | n + 9, h => simp [CL] at h
theorem CL_in {a : Nat} {C : String} {T : u_T} {N : Nat} (h : CL[a]? = some (C, T, N)) : ∀ w ∈ u_ws C T N, w ∈ ALL := by
  intro w hw
  unfold ALL
  refine List.mem_append_right _ (List.mem_append_right _ (List.mem_append_right _ (List.mem_append_left _ ?_)))
  exact List.mem_flatMap.mpr ⟨(C, T, N), List.mem_of_getElem? h, hw⟩
theorem FT_lt : ∀ q ∈ FT, q.2.2.2 < nfC q.2.2.1 ∧ q.2.2.1 < 9 := by decide +kernel
theorem FT_in {o ix a b : Nat} {C : String} {T : u_T} {N : Nat} (hc : CL[a]? = some (C, T, N)) (h : (o, ix, a, b) ∈ FT) : Jvm.Cond.fieldLink (cnm o) ix (T b).1 (T b).2.1 (T b).2.2.1 ∈ ALL := by
  unfold ALL
  refine List.mem_append_right _ (List.mem_append_right _ (List.mem_append_left _ ?_))
  refine List.mem_map.mpr ⟨_, h, ?_⟩
  simp only [fwC, hc]
theorem NT_in {o ix a : Nat} (h : (o, ix, a) ∈ NT) : Jvm.Cond.classLink (cnm o) ix (cnm a) ∈ ALL ∧ Jvm.Cond.instantiable (cnm a) (nfC a) ∈ ALL := by
  have key : ∀ w ∈ nwC (o, ix, a), w ∈ ALL := by
    intro w hw
    unfold ALL
    exact List.mem_append_right _ (List.mem_append_right _ (List.mem_append_right _ (List.mem_append_right _ (List.mem_append_right _ (List.mem_append_left _ (List.mem_flatMap.mpr ⟨_, h, hw⟩))))))
  exact ⟨key _ (by simp [nwC]), key _ (by simp [nwC])⟩
theorem NT_lt : ∀ q ∈ NT, q.2.2 < 9 := by decide +kernel
theorem CN_in {o : Nat} (h : o < 15) : Jvm.Cond.initialized (cnm o) ∈ ALL := by
  have h1 : ∃ n, CN[o]? = some n := ⟨_, List.getElem?_eq_getElem (by exact h)⟩
  obtain ⟨n, hn⟩ := h1
  unfold ALL
  refine List.mem_append_right _ (List.mem_append_left _ (List.mem_map.mpr ⟨n, List.mem_of_getElem? hn, ?_⟩))
  unfold cnm
  rw [hn]
  rfl
theorem CT_in {o ix : Nat} {v : Int} (h : (o, ix, v) ∈ CT) : Jvm.Cond.constant (cnm o) ix (Int32.ofInt v) ∈ ALL := by
  unfold ALL
  exact List.mem_append_right _ (List.mem_append_right _ (List.mem_append_right _ (List.mem_append_right _ (List.mem_append_right _ (List.mem_append_right _ (List.mem_append_left _ (List.mem_map.mpr ⟨_, h, rfl⟩)))))))
theorem LT_in {o ix : Nat} {v : Int} (h : (o, ix, v) ∈ LT) : Jvm.Cond.constantLong (cnm o) ix (Int64.ofInt v) ∈ ALL := by
  unfold ALL
  exact List.mem_append_right _ (List.mem_append_right _ (List.mem_append_right _ (List.mem_append_right _ (List.mem_append_right _ (List.mem_append_right _ (List.mem_append_right _ (List.mem_append_left _ (List.mem_map.mpr ⟨_, h, rfl⟩))))))))
theorem ST_in {o ix k : Nat} (h : (o, ix, k) ∈ ST) : Jvm.Cond.fieldLink (cnm o) ix SOW ((SNm[k]?).getD "") "[I" ∈ ALL := by
  unfold ALL
  exact List.mem_append_right _ (List.mem_append_right _ (List.mem_append_right _ (List.mem_append_right _ (List.mem_append_right _ (List.mem_append_right _ (List.mem_append_right _ (List.mem_append_right _ (List.mem_append_left _ (List.mem_map.mpr ⟨_, h, rfl⟩)))))))))
theorem ST_lt : ∀ q ∈ ST, q.2.2 < 3 := by decide +kernel
theorem AR_in {t : FieldType} (h : t = .int ∨ t = .long ∨ t = .boolean) : Jvm.Cond.arrayClass t ∈ ALL := by
  unfold ALL
  refine List.mem_append_right _ (List.mem_append_right _ (List.mem_append_right _ (List.mem_append_right _ (List.mem_append_right _ (List.mem_append_right _ (List.mem_append_right _ (List.mem_append_right _ (List.mem_append_right _ (List.mem_append_left _ ?_)))))))))
  unfold A_arr
  rcases h with rfl | rfl | rfl <;> simp
theorem dfC_ok (B : Nat) (sd : Nat → Nat) : ∀ a, a < 9 → ∀ j, j < nfC a → defaultValue (tyC a j) = vp_V ((dfC a).map (cv B sd)) j := by
  intro a ha j hj
  have h1 : ∀ a, a < 9 → ∀ j, j < nfC a → tyC a j = .int ∨ tyC a j = .boolean ∨ (∃ n, tyC a j = .object n) ∨ (∃ n, tyC a j = .array n) := by
    intro a ha j hj
    have h2 : ∀ a, a < 9 → ∀ j, j < nfC a → (match tyC a j with | .int => true | .boolean => true | .object _ => true | .array _ => true | _ => false) = true := by decide +kernel
    have h3 := h2 a ha j hj
    generalize tyC a j = t at h3 ⊢
    cases t <;> simp at h3 ⊢
  have h4 : (dfC a)[j]? = some (dfT (tyC a j)) := by
    unfold dfC
    rw [List.getElem?_map, List.getElem?_range hj]
    rfl
  have h5 : ((dfC a).map (cv B sd)).getD j .null = cv B sd (dfT (tyC a j)) := by
    rw [List.getD_eq_getElem?_getD, List.getElem?_map, h4]
    rfl
  unfold vp_V
  rw [h5]
  rcases h1 a ha j hj with h | h | ⟨n, h⟩ | ⟨n, h⟩ <;> rw [h] <;> rfl
theorem nb0 : narrow .boolean (.int (Int32.ofInt 0)) = .int (Int32.ofInt 0) := by decide
theorem nb1 : narrow .boolean (.int (Int32.ofInt 1)) = .int (Int32.ofInt 1) := by decide
theorem fb0 : fits .boolean (.int (Int32.ofInt 0)) = true := by decide
theorem fb1 : fits .boolean (.int (Int32.ofInt 1)) = true := by decide
section SND
variable {p : Program} {l : Launch} {e : Env} {R : Room} {s : State} {m : MethodId} {args : Array Value} {below : List Frame} {meth : Method} {c : Code} {Q : State → Prop}
variable {D : va_G} {K : Nat → ClassId} {B : Nat} {sd : Nat → Nat} {xs : List Int} {mi nL h0l h0s : Nat}
/-- from every state of the machine that shows this state of the small one, the goal is reached -/
def WG (p : Program) (l : Launch) (e : Env) (R : Room) (s : State) (m : MethodId) (args : Array Value) (below : List Frame) (meth : Method) (c : Code) (Q : State → Prop) (D : va_G) (K : Nat → ClassId) (B : Nat) (sd : Nat → Nat) (nL h0l h0s : Nat) (pc : Nat) (ls st : List MV) (h : MH) : Prop :=
  ∀ (H : Heap) (locs : List Loc) (lsA : Array Slot) (k j : Nat), h.length = h0l + k → slt h = h0s + j → va_P D CL (wd K B sd h) H → H.size = B + h.length → va_S (AB B) s.heap H locs → LH B sd lsA nL ls → W p l e R s m args below meth c H locs k j Q (F0 m pc lsA (st.map (cv B sd)))

def fam1 : Instr → Bool
  | .iconst _ => true
  | .bipush _ => true
  | .sipush _ => true
  | .ldc _ => true
  | .ldc_w _ => true
  | .ldc2_w _ => true
  | .lconst _ => true
  | .iload _ => true
  | .iload_n _ => true
  | .lload _ => true
  | .lload_n _ => true
  | .aload _ => true
  | .aload_n _ => true
  | _ => false

set_option maxHeartbeats 4000000 in
theorem step_1 (bd : Bd p s m args meth c mi D K B sd xs) {pc pc' np a b : Nat} {cst : Int} {I : Instr} {ls ls' st st' : List MV} {h h1 : MH} (hI : fam1 I = true) (hc : code_ mi pc = some (I, np, a, b, cst)) (hs : sstep xs pc (I, np, a, b, cst) ls st h = some (pc', ls', st', h1)) (hcap : h1.length ≤ h0l + R.cells ∧ slt h1 ≤ h0s + R.slots) (k1 : WG p l e R s m args below meth c Q D K B sd nL h0l h0s pc' ls' st' h1) : WG p l e R s m args below meth c Q D K B sd nL h0l h0s pc ls st h := by
  obtain ⟨hx, hb, hml, hown, hts, hnm, hE, hB⟩ := bd
  have hok := code_ok hc
  have hX := eok_x hok
  intro H locs lsA k j hk hj hP hz hS hL
  have kk := fun (H : Heap) (locs : List Loc) (lsA : Array Slot) (k j : Nat) => k1 H locs lsA k j
  cases I with
  | iconst n =>
    simp only [sstep] at hs
    obtain ⟨hn, hd⟩ := eok_len hok rfl
    subst hn
    obtain ⟨rfl, rfl, rfl, rfl⟩ := some4 hs
    exact lv_iconst hx hb hd rfl (kk H locs lsA k j hk hj hP hz hS hL)
  | bipush n =>
    simp only [sstep] at hs
    obtain ⟨hn, hd⟩ := eok_len hok rfl
    subst hn
    obtain ⟨rfl, rfl, rfl, rfl⟩ := some4 hs
    exact lv_bipush hx hb hd (n_byte n (by simpa [eokX] using hX)) (kk H locs lsA k j hk hj hP hz hS hL)
  | sipush n =>
    simp only [sstep] at hs
    obtain ⟨hn, hd⟩ := eok_len hok rfl
    subst hn
    obtain ⟨rfl, rfl, rfl, rfl⟩ := some4 hs
    exact lv_sipush hx hb hd (n_short n (by simpa [eokX] using hX)) (kk H locs lsA k j hk hj hP hz hS hL)
  | ldc ix =>
    simp only [sstep] at hs
    obtain ⟨hn, hd⟩ := eok_len hok rfl
    subst hn
    obtain ⟨rfl, rfl, rfl, rfl⟩ := some4 hs
    exact lv_ldc hx hb hown (hts _ (CT_in (by simpa [eokX] using hX))) hd (kk H locs lsA k j hk hj hP hz hS hL)
  | ldc_w ix =>
    simp only [sstep] at hs
    obtain ⟨hn, hd⟩ := eok_len hok rfl
    subst hn
    obtain ⟨rfl, rfl, rfl, rfl⟩ := some4 hs
    exact lv_ldcw hx hb hown (hts _ (CT_in (by simpa [eokX] using hX))) hd (kk H locs lsA k j hk hj hP hz hS hL)
  | ldc2_w ix =>
    simp only [sstep] at hs
    obtain ⟨hn, hd⟩ := eok_len hok rfl
    subst hn
    obtain ⟨rfl, rfl, rfl, rfl⟩ := some4 hs
    exact lv_ldc2 hx hb hown (hts _ (LT_in (by simpa [eokX] using hX))) hd (kk H locs lsA k j hk hj hP hz hS hL)
  | lconst n =>
    simp only [sstep] at hs
    obtain ⟨hn, hd⟩ := eok_len hok rfl
    subst hn
    obtain ⟨rfl, rfl, rfl, rfl⟩ := some4 hs
    exact lv_lconst hx hb hd (by match n with
      | 0 => rfl
      | 1 => rfl) (kk H locs lsA k j hk hj hP hz hS hL)
  | iload k9 =>
    simp only [sstep] at hs
    obtain ⟨hn, hd⟩ := eok_len hok rfl
    subst hn
    unfold ldI at hs
    split at hs
    · next x hx9 =>
      obtain ⟨rfl, rfl, rfl, rfl⟩ := some4 hs
      exact lv_iload hx hb hd (hL.get hx9 rfl) (kk H locs lsA k j hk hj hP hz hS hL)
    · cases hs
  | iload_n k9 =>
    simp only [sstep] at hs
    obtain ⟨hn, hd⟩ := eok_len hok rfl
    subst hn
    unfold ldI at hs
    split at hs
    · next x hx9 =>
      obtain ⟨rfl, rfl, rfl, rfl⟩ := some4 hs
      exact lv_iload_n hx hb hd rfl (hL.get hx9 rfl) (kk H locs lsA k j hk hj hP hz hS hL)
    · cases hs
  | lload k9 =>
    simp only [sstep] at hs
    obtain ⟨hn, hd⟩ := eok_len hok rfl
    subst hn
    unfold ldL at hs
    split at hs
    · next x hx9 =>
      obtain ⟨rfl, rfl, rfl, rfl⟩ := some4 hs
      exact lv_lload hx hb hd (hL.get hx9 rfl) (kk H locs lsA k j hk hj hP hz hS hL)
    · cases hs
  | lload_n k9 =>
    simp only [sstep] at hs
    obtain ⟨hn, hd⟩ := eok_len hok rfl
    subst hn
    unfold ldL at hs
    split at hs
    · next x hx9 =>
      obtain ⟨rfl, rfl, rfl, rfl⟩ := some4 hs
      exact lv_lload_n hx hb hd rfl (hL.get hx9 rfl) (kk H locs lsA k j hk hj hP hz hS hL)
    · cases hs
  | aload k9 =>
    simp only [sstep] at hs
    obtain ⟨hn, hd⟩ := eok_len hok rfl
    subst hn
    unfold ldA at hs
    split at hs
    · next x hx9 =>
      obtain ⟨rfl, rfl, rfl, rfl⟩ := some4 hs
      exact lv_aload hx hb hd (hL.get hx9 rfl) (kk H locs lsA k j hk hj hP hz hS hL)
    · next x hx9 =>
      obtain ⟨rfl, rfl, rfl, rfl⟩ := some4 hs
      exact lv_aload hx hb hd (hL.get hx9 rfl) (kk H locs lsA k j hk hj hP hz hS hL)
    · cases hs
  | aload_n k9 =>
    simp only [sstep] at hs
    obtain ⟨hn, hd⟩ := eok_len hok rfl
    subst hn
    unfold ldA at hs
    split at hs
    · next x hx9 =>
      obtain ⟨rfl, rfl, rfl, rfl⟩ := some4 hs
      exact lv_aload_n hx hb hd rfl (hL.get hx9 rfl) (kk H locs lsA k j hk hj hP hz hS hL)
    · next x hx9 =>
      obtain ⟨rfl, rfl, rfl, rfl⟩ := some4 hs
      exact lv_aload_n hx hb hd rfl (hL.get hx9 rfl) (kk H locs lsA k j hk hj hP hz hS hL)
    · cases hs
  | _ => exact absurd hI (by simp [fam1])

def fam2 : Instr → Bool
  | .istore _ => true
  | .istore_n _ => true
  | .lstore _ => true
  | .lstore_n _ => true
  | .astore _ => true
  | .astore_n _ => true
  | .iinc _ _ => true
  | _ => false

set_option maxHeartbeats 4000000 in
theorem step_2 (bd : Bd p s m args meth c mi D K B sd xs) {pc pc' np a b : Nat} {cst : Int} {I : Instr} {ls ls' st st' : List MV} {h h1 : MH} (hI : fam2 I = true) (hc : code_ mi pc = some (I, np, a, b, cst)) (hs : sstep xs pc (I, np, a, b, cst) ls st h = some (pc', ls', st', h1)) (hcap : h1.length ≤ h0l + R.cells ∧ slt h1 ≤ h0s + R.slots) (k1 : WG p l e R s m args below meth c Q D K B sd nL h0l h0s pc' ls' st' h1) : WG p l e R s m args below meth c Q D K B sd nL h0l h0s pc ls st h := by
  obtain ⟨hx, hb, hml, hown, hts, hnm, hE, hB⟩ := bd
  have hok := code_ok hc
  have hX := eok_x hok
  intro H locs lsA k j hk hj hP hz hS hL
  have kk := fun (H : Heap) (locs : List Loc) (lsA : Array Slot) (k j : Nat) => k1 H locs lsA k j
  cases I with
  | istore k9 =>
    simp only [sstep] at hs
    obtain ⟨hn, hd⟩ := eok_len hok rfl
    subst hn
    unfold stI at hs
    split at hs
    · next x r9 =>
      obtain ⟨hlt, hs⟩ := if_some hs
      rw [hL.1] at hlt
      obtain ⟨rfl, rfl, rfl, rfl⟩ := some4 hs
      exact lv_istore hx hb hd hL.2 hlt rfl (fun lsB hB9 => kk H locs lsB k j hk hj hP hz hS (hL.st1 hB9))
    · cases hs
  | istore_n k9 =>
    simp only [sstep] at hs
    obtain ⟨hn, hd⟩ := eok_len hok rfl
    subst hn
    unfold stI at hs
    split at hs
    · next x r9 =>
      obtain ⟨hlt, hs⟩ := if_some hs
      rw [hL.1] at hlt
      obtain ⟨rfl, rfl, rfl, rfl⟩ := some4 hs
      exact lv_istore_n hx hb hd rfl hL.2 hlt rfl (fun lsB hB9 => kk H locs lsB k j hk hj hP hz hS (hL.st1 hB9))
    · cases hs
  | lstore k9 =>
    simp only [sstep] at hs
    obtain ⟨hn, hd⟩ := eok_len hok rfl
    subst hn
    unfold stL at hs
    split at hs
    · next x r9 =>
      obtain ⟨hlt, hs⟩ := if_some hs
      rw [hL.1] at hlt
      obtain ⟨rfl, rfl, rfl, rfl⟩ := some4 hs
      exact lv_lstore hx hb hd hL.2 hlt rfl (fun lsB hB9 => kk H locs lsB k j hk hj hP hz hS (hL.st2 hB9))
    · cases hs
  | lstore_n k9 =>
    simp only [sstep] at hs
    obtain ⟨hn, hd⟩ := eok_len hok rfl
    subst hn
    unfold stL at hs
    split at hs
    · next x r9 =>
      obtain ⟨hlt, hs⟩ := if_some hs
      rw [hL.1] at hlt
      obtain ⟨rfl, rfl, rfl, rfl⟩ := some4 hs
      exact lv_lstore_n hx hb hd rfl hL.2 hlt rfl (fun lsB hB9 => kk H locs lsB k j hk hj hP hz hS (hL.st2 hB9))
    · cases hs
  | astore k9 =>
    simp only [sstep] at hs
    obtain ⟨hn, hd⟩ := eok_len hok rfl
    subst hn
    unfold stA at hs
    split at hs
    · next x r9 =>
      obtain ⟨hlt, hs⟩ := if_some hs
      rw [hL.1] at hlt
      obtain ⟨rfl, rfl, rfl, rfl⟩ := some4 hs
      exact lv_astore hx hb hd hL.2 hlt rfl (fun lsB hB9 => kk H locs lsB k j hk hj hP hz hS (hL.st1 hB9))
    · cases hs
  | astore_n k9 =>
    simp only [sstep] at hs
    obtain ⟨hn, hd⟩ := eok_len hok rfl
    subst hn
    unfold stA at hs
    split at hs
    · next x r9 =>
      obtain ⟨hlt, hs⟩ := if_some hs
      rw [hL.1] at hlt
      obtain ⟨rfl, rfl, rfl, rfl⟩ := some4 hs
      exact lv_astore_n hx hb hd rfl hL.2 hlt rfl (fun lsB hB9 => kk H locs lsB k j hk hj hP hz hS (hL.st1 hB9))
    · cases hs
  | iinc k9 n =>
    simp only [sstep] at hs
    obtain ⟨hn, hd⟩ := eok_len hok rfl
    subst hn
    split at hs
    · next x hx9 =>
      obtain ⟨rfl, rfl, rfl, rfl⟩ := some4 hs
      have hlt : k9 < nL := by rw [← hL.1]; exact (List.getElem?_eq_some_iff.mp hx9).1
      obtain ⟨i9, hi9⟩ := List.getElem?_of_mem (lvl_mem.mpr ⟨vI x, hx9, rfl, rfl⟩ : ((k9, cv B sd (vI x)) : Nat × Value) ∈ lvl B sd ls)
      exact lv_iinc hx hb hd hL.2 hi9 (n_add x n).symm hlt rfl (fun lsB hB9 => kk H locs lsB k j hk hj hP hz hS (hL.st1 hB9))
    · cases hs
  | _ => exact absurd hI (by simp [fam2])

def fam3 : Instr → Bool
  | .iadd => true
  | .isub => true
  | .imul => true
  | .iand => true
  | .ior => true
  | .ixor => true
  | .ishl => true
  | .ishr => true
  | .iushr => true
  | .idiv => true
  | .irem => true
  | .ineg => true
  | .i2l => true
  | .ladd => true
  | .lsub => true
  | .lmul => true
  | .ldiv => true
  | .lrem => true
  | .lneg => true
  | .lcmp => true
  | .dup => true
  | .dup2 => true
  | _ => false

set_option maxHeartbeats 4000000 in
theorem step_3 (bd : Bd p s m args meth c mi D K B sd xs) {pc pc' np a b : Nat} {cst : Int} {I : Instr} {ls ls' st st' : List MV} {h h1 : MH} (hI : fam3 I = true) (hc : code_ mi pc = some (I, np, a, b, cst)) (hs : sstep xs pc (I, np, a, b, cst) ls st h = some (pc', ls', st', h1)) (hcap : h1.length ≤ h0l + R.cells ∧ slt h1 ≤ h0s + R.slots) (k1 : WG p l e R s m args below meth c Q D K B sd nL h0l h0s pc' ls' st' h1) : WG p l e R s m args below meth c Q D K B sd nL h0l h0s pc ls st h := by
  obtain ⟨hx, hb, hml, hown, hts, hnm, hE, hB⟩ := bd
  have hok := code_ok hc
  have hX := eok_x hok
  intro H locs lsA k j hk hj hP hz hS hL
  have kk := fun (H : Heap) (locs : List Loc) (lsA : Array Slot) (k j : Nat) => k1 H locs lsA k j
  cases I with
  | iadd =>
    simp only [sstep] at hs
    obtain ⟨hn, hd⟩ := eok_len hok rfl
    subst hn
    obtain ⟨x, y, r, rfl, hs⟩ := s2_some hs
    obtain ⟨rfl, rfl, rfl, rfl⟩ := some4 hs
    refine lv_iadd hx hb hd ?_
    rw [← n_add]
    exact (kk H locs lsA k j hk hj hP hz hS hL)
  | isub =>
    simp only [sstep] at hs
    obtain ⟨hn, hd⟩ := eok_len hok rfl
    subst hn
    obtain ⟨x, y, r, rfl, hs⟩ := s2_some hs
    obtain ⟨rfl, rfl, rfl, rfl⟩ := some4 hs
    refine lv_isub hx hb hd ?_
    rw [← n_sub]
    exact (kk H locs lsA k j hk hj hP hz hS hL)
  | imul =>
    simp only [sstep] at hs
    obtain ⟨hn, hd⟩ := eok_len hok rfl
    subst hn
    obtain ⟨x, y, r, rfl, hs⟩ := s2_some hs
    obtain ⟨rfl, rfl, rfl, rfl⟩ := some4 hs
    refine lv_imul hx hb hd ?_
    rw [← n_mul]
    exact (kk H locs lsA k j hk hj hP hz hS hL)
  | iand =>
    simp only [sstep] at hs
    obtain ⟨hn, hd⟩ := eok_len hok rfl
    subst hn
    obtain ⟨x, y, r, rfl, hs⟩ := s2_some hs
    obtain ⟨rfl, rfl, rfl, rfl⟩ := some4 hs
    refine lv_iand hx hb hd ?_
    have q9 := kk H locs lsA k j hk hj hP hz hS hL
    simp only [List.map_cons, cv, bAnd, n_ofTo] at q9
    exact q9
  | ior =>
    simp only [sstep] at hs
    obtain ⟨hn, hd⟩ := eok_len hok rfl
    subst hn
    obtain ⟨x, y, r, rfl, hs⟩ := s2_some hs
    obtain ⟨rfl, rfl, rfl, rfl⟩ := some4 hs
    refine lv_ior hx hb hd ?_
    have q9 := kk H locs lsA k j hk hj hP hz hS hL
    simp only [List.map_cons, cv, bOr, n_ofTo] at q9
    exact q9
  | ixor =>
    simp only [sstep] at hs
    obtain ⟨hn, hd⟩ := eok_len hok rfl
    subst hn
    obtain ⟨x, y, r, rfl, hs⟩ := s2_some hs
    obtain ⟨rfl, rfl, rfl, rfl⟩ := some4 hs
    refine lv_ixor hx hb hd ?_
    have q9 := kk H locs lsA k j hk hj hP hz hS hL
    simp only [List.map_cons, cv, bXor, n_ofTo] at q9
    exact q9
  | ishl =>
    simp only [sstep] at hs
    obtain ⟨hn, hd⟩ := eok_len hok rfl
    subst hn
    obtain ⟨x, y, r, rfl, hs⟩ := s2_some hs
    obtain ⟨rfl, rfl, rfl, rfl⟩ := some4 hs
    refine lv_ishl hx hb hd ?_
    have q9 := kk H locs lsA k j hk hj hP hz hS hL
    simp only [List.map_cons, cv, bShl, n_ofTo] at q9
    exact q9
  | ishr =>
    simp only [sstep] at hs
    obtain ⟨hn, hd⟩ := eok_len hok rfl
    subst hn
    obtain ⟨x, y, r, rfl, hs⟩ := s2_some hs
    obtain ⟨rfl, rfl, rfl, rfl⟩ := some4 hs
    refine lv_ishr hx hb hd ?_
    have q9 := kk H locs lsA k j hk hj hP hz hS hL
    simp only [List.map_cons, cv, bShr, n_ofTo] at q9
    exact q9
  | iushr =>
    simp only [sstep] at hs
    obtain ⟨hn, hd⟩ := eok_len hok rfl
    subst hn
    obtain ⟨x, y, r, rfl, hs⟩ := s2_some hs
    obtain ⟨rfl, rfl, rfl, rfl⟩ := some4 hs
    refine lv_iushr hx hb hd rfl ?_
    have q9 := kk H locs lsA k j hk hj hP hz hS hL
    simp only [List.map_cons, cv, bUsh, n_ofTo] at q9
    exact q9
  | idiv =>
    simp only [sstep] at hs
    obtain ⟨hn, hd⟩ := eok_len hok rfl
    subst hn
    obtain ⟨x, y, r, rfl, hs⟩ := s2_some hs
    obtain ⟨⟨h7, h8, h9⟩, hs⟩ := if_some hs
    obtain ⟨rfl, rfl, rfl, rfl⟩ := some4 hs
    refine lv_idiv hx hb hd (n_nz h8 h9) ?_
    rw [← n_div h7 h8]
    exact (kk H locs lsA k j hk hj hP hz hS hL)
  | irem =>
    simp only [sstep] at hs
    obtain ⟨hn, hd⟩ := eok_len hok rfl
    subst hn
    obtain ⟨x, y, r, rfl, hs⟩ := s2_some hs
    obtain ⟨⟨h7, h8, h9⟩, hs⟩ := if_some hs
    obtain ⟨rfl, rfl, rfl, rfl⟩ := some4 hs
    refine lv_irem hx hb hd (n_nz h8 h9) ?_
    rw [← n_mod h7 h8]
    exact (kk H locs lsA k j hk hj hP hz hS hL)
  | ineg =>
    simp only [sstep] at hs
    obtain ⟨hn, hd⟩ := eok_len hok rfl
    subst hn
    obtain ⟨x, r, rfl, hs⟩ := s1_some hs
    obtain ⟨rfl, rfl, rfl, rfl⟩ := some4 hs
    refine lv_ineg hx hb hd ?_
    have q9 := kk H locs lsA k j hk hj hP hz hS hL
    simp only [List.map_cons, cv, n_neg] at q9
    exact q9
  | i2l =>
    simp only [sstep] at hs
    obtain ⟨hn, hd⟩ := eok_len hok rfl
    subst hn
    obtain ⟨x, r, rfl, hs⟩ := s1_some hs
    obtain ⟨h7, hs⟩ := if_some hs
    obtain ⟨rfl, rfl, rfl, rfl⟩ := some4 hs
    exact lv_i2l hx hb hd (n_i2l h7) (kk H locs lsA k j hk hj hP hz hS hL)
  | ladd =>
    simp only [sstep] at hs
    obtain ⟨hn, hd⟩ := eok_len hok rfl
    subst hn
    obtain ⟨x, y, r, rfl, hs⟩ := l2_some hs
    obtain ⟨rfl, rfl, rfl, rfl⟩ := some4 hs
    refine lv_ladd hx hb hd ?_
    rw [← n_addL]
    exact (kk H locs lsA k j hk hj hP hz hS hL)
  | lsub =>
    simp only [sstep] at hs
    obtain ⟨hn, hd⟩ := eok_len hok rfl
    subst hn
    obtain ⟨x, y, r, rfl, hs⟩ := l2_some hs
    obtain ⟨rfl, rfl, rfl, rfl⟩ := some4 hs
    refine lv_lsub hx hb hd ?_
    rw [← n_subL]
    exact (kk H locs lsA k j hk hj hP hz hS hL)
  | lmul =>
    simp only [sstep] at hs
    obtain ⟨hn, hd⟩ := eok_len hok rfl
    subst hn
    obtain ⟨x, y, r, rfl, hs⟩ := l2_some hs
    obtain ⟨rfl, rfl, rfl, rfl⟩ := some4 hs
    refine lv_lmul hx hb hd ?_
    rw [← n_mulL]
    exact (kk H locs lsA k j hk hj hP hz hS hL)
  | ldiv =>
    simp only [sstep] at hs
    obtain ⟨hn, hd⟩ := eok_len hok rfl
    subst hn
    obtain ⟨x, y, r, rfl, hs⟩ := l2_some hs
    obtain ⟨⟨h7, h8, h9⟩, hs⟩ := if_some hs
    obtain ⟨rfl, rfl, rfl, rfl⟩ := some4 hs
    refine lv_ldiv hx hb hd (n_nzL h8 h9) ?_
    rw [← n_divL h7 h8]
    exact (kk H locs lsA k j hk hj hP hz hS hL)
  | lrem =>
    simp only [sstep] at hs
    obtain ⟨hn, hd⟩ := eok_len hok rfl
    subst hn
    obtain ⟨x, y, r, rfl, hs⟩ := l2_some hs
    obtain ⟨⟨h7, h8, h9⟩, hs⟩ := if_some hs
    obtain ⟨rfl, rfl, rfl, rfl⟩ := some4 hs
    refine lv_lrem hx hb hd (n_nzL h8 h9) ?_
    rw [← n_modL h7 h8]
    exact (kk H locs lsA k j hk hj hP hz hS hL)
  | lneg =>
    simp only [sstep] at hs
    obtain ⟨hn, hd⟩ := eok_len hok rfl
    subst hn
    obtain ⟨x, r, rfl, hs⟩ := l1_some hs
    obtain ⟨rfl, rfl, rfl, rfl⟩ := some4 hs
    refine lv_lneg hx hb hd ?_
    have q9 := kk H locs lsA k j hk hj hP hz hS hL
    simp only [List.map_cons, cv, n_negL] at q9
    exact q9
  | lcmp =>
    simp only [sstep] at hs
    obtain ⟨hn, hd⟩ := eok_len hok rfl
    subst hn
    obtain ⟨x, y, r, rfl, hs⟩ := l2_some hs
    obtain ⟨⟨h7, h8⟩, hs⟩ := if_some hs
    obtain ⟨rfl, rfl, rfl, rfl⟩ := some4 hs
    refine W.lcmp hx hb hd ?_
    rw [← n_lcm h7 h8]
    exact (kk H locs lsA k j hk hj hP hz hS hL)
  | dup =>
    simp only [sstep] at hs
    obtain ⟨hn, hd⟩ := eok_len hok rfl
    subst hn
    split at hs
    · next v r =>
      obtain ⟨h7, hs⟩ := if_some hs
      obtain ⟨rfl, rfl, rfl, rfl⟩ := some4 hs
      exact lv_dup hx hb hd (by rw [cv_cat]; exact h7) (kk H locs lsA k j hk hj hP hz hS hL)
    · cases hs
  | dup2 =>
    simp only [sstep] at hs
    obtain ⟨hn, hd⟩ := eok_len hok rfl
    subst hn
    split at hs
    · next v w r =>
      obtain ⟨⟨h7, h8⟩, hs⟩ := if_some hs
      obtain ⟨rfl, rfl, rfl, rfl⟩ := some4 hs
      exact lv_dup2_11 hx hb hd (by rw [cv_cat]; exact h7) (by rw [cv_cat]; exact h8) (kk H locs lsA k j hk hj hP hz hS hL)
    · cases hs
  | _ => exact absurd hI (by simp [fam3])

def fam4 : Instr → Bool
  | .goto _ => true
  | .if_icmp _ _ => true
  | .ifCond _ _ => true
  | .ifnull _ => true
  | .ifnonnull _ => true
  | .tableswitch _ _ _ _ => true
  | .lookupswitch _ _ => true
  | _ => false

set_option maxHeartbeats 4000000 in
theorem step_4 (bd : Bd p s m args meth c mi D K B sd xs) {pc pc' np a b : Nat} {cst : Int} {I : Instr} {ls ls' st st' : List MV} {h h1 : MH} (hI : fam4 I = true) (hc : code_ mi pc = some (I, np, a, b, cst)) (hs : sstep xs pc (I, np, a, b, cst) ls st h = some (pc', ls', st', h1)) (hcap : h1.length ≤ h0l + R.cells ∧ slt h1 ≤ h0s + R.slots) (k1 : WG p l e R s m args below meth c Q D K B sd nL h0l h0s pc' ls' st' h1) : WG p l e R s m args below meth c Q D K B sd nL h0l h0s pc ls st h := by
  obtain ⟨hx, hb, hml, hown, hts, hnm, hE, hB⟩ := bd
  have hok := code_ok hc
  have hX := eok_x hok
  intro H locs lsA k j hk hj hP hz hS hL
  have kk := fun (H : Heap) (locs : List Loc) (lsA : Array Slot) (k j : Nat) => k1 H locs lsA k j
  cases I with
  | goto off =>
    simp only [sstep] at hs
    obtain ⟨hn, hd⟩ := eok_len hok rfl
    subst hn
    obtain ⟨rfl, rfl, rfl, rfl⟩ := some4 hs
    have ht : (pc : Int) + off = (a : Int) := by simpa [eokX] using hX
    exact lv_goto hx hb hd ht (kk H locs lsA k j hk hj hP hz hS hL)
  | if_icmp o off =>
    simp only [sstep] at hs
    obtain ⟨hn, hd⟩ := eok_len hok rfl
    subst hn
    obtain ⟨x, y, r, rfl, hs⟩ := s2_some hs
    obtain ⟨⟨h7, h8⟩, hs⟩ := if_some hs
    obtain ⟨rfl, rfl, rfl, rfl⟩ := some4 hs
    have ht : (pc : Int) + off = (a : Int) := by simpa [eokX] using hX
    cases o with
    | eq =>
      refine lv_icmp_eq hx hb hd ht (fun q => ?_) (fun q => ?_)
      · have p9 : x = y := (n_eq h7 h8).mp q
        have c9 : cmpZ .eq x y = true := by simp [cmpZ]; omega
        have q9 := kk H locs lsA k j hk hj hP hz hS hL
        rw [c9] at q9
        exact q9
      · have p9 : ¬ (x = y) := fun z => q ((n_eq h7 h8).mpr z)
        have c9 : cmpZ .eq x y = false := by simp [cmpZ]; omega
        have q9 := kk H locs lsA k j hk hj hP hz hS hL
        rw [c9] at q9
        exact q9
    | ne =>
      refine lv_icmp_ne hx hb hd ht (fun q => ?_) (fun q => ?_)
      · have p9 : ¬ x = y := fun z => q ((n_eq h7 h8).mpr z)
        have c9 : cmpZ .ne x y = true := by simp [cmpZ]; omega
        have q9 := kk H locs lsA k j hk hj hP hz hS hL
        rw [c9] at q9
        exact q9
      · have p9 : x = y := (n_eq h7 h8).mp q
        have c9 : cmpZ .ne x y = false := by simp [cmpZ]; omega
        have q9 := kk H locs lsA k j hk hj hP hz hS hL
        rw [c9] at q9
        exact q9
    | lt =>
      refine lv_icmp_lt hx hb hd ht (fun q => ?_) (fun q => ?_)
      · have p9 : x < y := (n_lt h7 h8).mp q
        have c9 : cmpZ .lt x y = true := by simp [cmpZ]; omega
        have q9 := kk H locs lsA k j hk hj hP hz hS hL
        rw [c9] at q9
        exact q9
      · have p9 : ¬ (x < y) := fun z => q ((n_lt h7 h8).mpr z)
        have c9 : cmpZ .lt x y = false := by simp [cmpZ]; omega
        have q9 := kk H locs lsA k j hk hj hP hz hS hL
        rw [c9] at q9
        exact q9
    | ge =>
      refine lv_icmp_ge hx hb hd ht (fun q => ?_) (fun q => ?_)
      · have p9 : y ≤ x := (n_le h8 h7).mp q
        have c9 : cmpZ .ge x y = true := by simp [cmpZ]; omega
        have q9 := kk H locs lsA k j hk hj hP hz hS hL
        rw [c9] at q9
        exact q9
      · have p9 : ¬ (y ≤ x) := fun z => q ((n_le h8 h7).mpr z)
        have c9 : cmpZ .ge x y = false := by simp [cmpZ]; omega
        have q9 := kk H locs lsA k j hk hj hP hz hS hL
        rw [c9] at q9
        exact q9
    | gt =>
      refine lv_icmp_gt hx hb hd ht (fun q => ?_) (fun q => ?_)
      · have p9 : y < x := (n_lt h8 h7).mp q
        have c9 : cmpZ .gt x y = true := by simp [cmpZ]; omega
        have q9 := kk H locs lsA k j hk hj hP hz hS hL
        rw [c9] at q9
        exact q9
      · have p9 : ¬ (y < x) := fun z => q ((n_lt h8 h7).mpr z)
        have c9 : cmpZ .gt x y = false := by simp [cmpZ]; omega
        have q9 := kk H locs lsA k j hk hj hP hz hS hL
        rw [c9] at q9
        exact q9
    | le =>
      refine lv_icmp_le hx hb hd ht (fun q => ?_) (fun q => ?_)
      · have p9 : x ≤ y := (n_le h7 h8).mp q
        have c9 : cmpZ .le x y = true := by simp [cmpZ]; omega
        have q9 := kk H locs lsA k j hk hj hP hz hS hL
        rw [c9] at q9
        exact q9
      · have p9 : ¬ (x ≤ y) := fun z => q ((n_le h7 h8).mpr z)
        have c9 : cmpZ .le x y = false := by simp [cmpZ]; omega
        have q9 := kk H locs lsA k j hk hj hP hz hS hL
        rw [c9] at q9
        exact q9
  | ifCond o off =>
    simp only [sstep] at hs
    obtain ⟨hn, hd⟩ := eok_len hok rfl
    subst hn
    obtain ⟨x, r, rfl, hs⟩ := s1_some hs
    obtain ⟨h7, hs⟩ := if_some hs
    have h8 : inR (0 : Int) := by constructor <;> decide
    obtain ⟨rfl, rfl, rfl, rfl⟩ := some4 hs
    have ht : (pc : Int) + off = (a : Int) := by simpa [eokX] using hX
    cases o with
    | eq =>
      refine lv_if_eq hx hb hd ht (fun q => ?_) (fun q => ?_)
      · rw [n_0] at q; have p9 : x = 0 := (n_eq h7 h8).mp q
        have c9 : cmpZ .eq x 0 = true := by simp [cmpZ]; omega
        have q9 := kk H locs lsA k j hk hj hP hz hS hL
        rw [c9] at q9
        exact q9
      · rw [n_0] at q; have p9 : ¬ (x = 0) := fun z => q ((n_eq h7 h8).mpr z)
        have c9 : cmpZ .eq x 0 = false := by simp [cmpZ]; omega
        have q9 := kk H locs lsA k j hk hj hP hz hS hL
        rw [c9] at q9
        exact q9
    | ne =>
      refine lv_if_ne hx hb hd ht (fun q => ?_) (fun q => ?_)
      · rw [n_0] at q; have p9 : ¬ x = 0 := fun z => q ((n_eq h7 h8).mpr z)
        have c9 : cmpZ .ne x 0 = true := by simp [cmpZ]; omega
        have q9 := kk H locs lsA k j hk hj hP hz hS hL
        rw [c9] at q9
        exact q9
      · rw [n_0] at q; have p9 : x = 0 := (n_eq h7 h8).mp q
        have c9 : cmpZ .ne x 0 = false := by simp [cmpZ]; omega
        have q9 := kk H locs lsA k j hk hj hP hz hS hL
        rw [c9] at q9
        exact q9
    | lt =>
      refine lv_if_lt hx hb hd ht (fun q => ?_) (fun q => ?_)
      · rw [n_0] at q; have p9 : x < 0 := (n_lt h7 h8).mp q
        have c9 : cmpZ .lt x 0 = true := by simp [cmpZ]; omega
        have q9 := kk H locs lsA k j hk hj hP hz hS hL
        rw [c9] at q9
        exact q9
      · rw [n_0] at q; have p9 : ¬ (x < 0) := fun z => q ((n_lt h7 h8).mpr z)
        have c9 : cmpZ .lt x 0 = false := by simp [cmpZ]; omega
        have q9 := kk H locs lsA k j hk hj hP hz hS hL
        rw [c9] at q9
        exact q9
    | ge =>
      refine lv_if_ge hx hb hd ht (fun q => ?_) (fun q => ?_)
      · rw [n_0] at q; have p9 : 0 ≤ x := (n_le h8 h7).mp q
        have c9 : cmpZ .ge x 0 = true := by simp [cmpZ]; omega
        have q9 := kk H locs lsA k j hk hj hP hz hS hL
        rw [c9] at q9
        exact q9
      · rw [n_0] at q; have p9 : ¬ (0 ≤ x) := fun z => q ((n_le h8 h7).mpr z)
        have c9 : cmpZ .ge x 0 = false := by simp [cmpZ]; omega
        have q9 := kk H locs lsA k j hk hj hP hz hS hL
        rw [c9] at q9
        exact q9
    | gt =>
      refine lv_if_gt hx hb hd ht (fun q => ?_) (fun q => ?_)
      · rw [n_0] at q; have p9 : 0 < x := (n_lt h8 h7).mp q
        have c9 : cmpZ .gt x 0 = true := by simp [cmpZ]; omega
        have q9 := kk H locs lsA k j hk hj hP hz hS hL
        rw [c9] at q9
        exact q9
      · rw [n_0] at q; have p9 : ¬ (0 < x) := fun z => q ((n_lt h8 h7).mpr z)
        have c9 : cmpZ .gt x 0 = false := by simp [cmpZ]; omega
        have q9 := kk H locs lsA k j hk hj hP hz hS hL
        rw [c9] at q9
        exact q9
    | le =>
      refine lv_if_le hx hb hd ht (fun q => ?_) (fun q => ?_)
      · rw [n_0] at q; have p9 : x ≤ 0 := (n_le h7 h8).mp q
        have c9 : cmpZ .le x 0 = true := by simp [cmpZ]; omega
        have q9 := kk H locs lsA k j hk hj hP hz hS hL
        rw [c9] at q9
        exact q9
      · rw [n_0] at q; have p9 : ¬ (x ≤ 0) := fun z => q ((n_le h7 h8).mpr z)
        have c9 : cmpZ .le x 0 = false := by simp [cmpZ]; omega
        have q9 := kk H locs lsA k j hk hj hP hz hS hL
        rw [c9] at q9
        exact q9
  | ifnull off =>
    simp only [sstep] at hs
    obtain ⟨hn, hd⟩ := eok_len hok rfl
    subst hn
    split at hs
    · next q r =>
      obtain ⟨rfl, rfl, rfl, rfl⟩ := some4 hs
      exact lv_ifnull hx hb hd (kk H locs lsA k j hk hj hP hz hS hL)
    · cases hs
  | ifnonnull off =>
    simp only [sstep] at hs
    obtain ⟨hn, hd⟩ := eok_len hok rfl
    subst hn
    have ht : (pc : Int) + off = (a : Int) := by simpa [eokX] using hX
    split at hs
    · next q r =>
      obtain ⟨rfl, rfl, rfl, rfl⟩ := some4 hs
      exact lv_ifnonnull hx hb hd ht (kk H locs lsA k j hk hj hP hz hS hL)
    · cases hs
  | tableswitch d lo hi offs =>
    simp only [sstep] at hs
    have hd := eok_dec hok
    obtain ⟨x, r, rfl, hs⟩ := s1_some hs
    obtain ⟨h7, hs⟩ := if_some hs
    unfold jump swT at hs
    by_cases hq : x < lo ∨ hi < x
    · rw [if_pos hq] at hs
      obtain ⟨h8, hs⟩ := if_some hs
      obtain ⟨rfl, rfl, rfl, rfl⟩ := some4 hs
      exact lv_tableOut hx hb hd (by rw [n_toOf h7]; exact hq) (by omega) (kk H locs lsA k j hk hj hP hz hS hL)
    · rw [if_neg hq] at hs
      cases ho : offs.toList[(x - lo).toNat]? with
      | none => rw [ho] at hs; cases hs
      | some o9 =>
        rw [ho] at hs
        obtain ⟨h8, hs⟩ := if_some hs
        obtain ⟨rfl, rfl, rfl, rfl⟩ := some4 hs
        exact lv_tableIn hx hb hd (by rw [n_toOf h7]; omega) (by rw [n_toOf h7]; omega) (off := o9) (by rw [n_toOf h7, ← Array.getElem?_toList]; exact ho) (by omega) (kk H locs lsA k j hk hj hP hz hS hL)
  | lookupswitch d ps =>
    simp only [sstep] at hs
    have hd := eok_dec hok
    obtain ⟨x, r, rfl, hs⟩ := s1_some hs
    obtain ⟨⟨h7, h9⟩, hs⟩ := if_some hs
    unfold jump at hs
    obtain ⟨h8, hs⟩ := if_some hs
    obtain ⟨rfl, rfl, rfl, rfl⟩ := some4 hs
    exact lv_lookup hx hb hd h9 (by rw [n_toOf h7]) (by omega) (kk H locs lsA k j hk hj hP hz hS hL)
  | _ => exact absurd hI (by simp [fam4])

def fam5 : Instr → Bool
  | .getfield _ => true
  | .putfield _ => true
  | .getstatic _ => true
  | .iaload => true
  | .laload => true
  | .baload => true
  | .iastore => true
  | .lastore => true
  | .bastore => true
  | .arraylength => true
  | .new _ => true
  | .newarray _ => true
  | _ => false

set_option maxHeartbeats 4000000 in
theorem step_5 (bd : Bd p s m args meth c mi D K B sd xs) {pc pc' np a b : Nat} {cst : Int} {I : Instr} {ls ls' st st' : List MV} {h h1 : MH} (hI : fam5 I = true) (hc : code_ mi pc = some (I, np, a, b, cst)) (hs : sstep xs pc (I, np, a, b, cst) ls st h = some (pc', ls', st', h1)) (hcap : h1.length ≤ h0l + R.cells ∧ slt h1 ≤ h0s + R.slots) (k1 : WG p l e R s m args below meth c Q D K B sd nL h0l h0s pc' ls' st' h1) : WG p l e R s m args below meth c Q D K B sd nL h0l h0s pc ls st h := by
  obtain ⟨hx, hb, hml, hown, hts, hnm, hE, hB⟩ := bd
  have hok := code_ok hc
  have hX := eok_x hok
  intro H locs lsA k j hk hj hP hz hS hL
  have kk := fun (H : Heap) (locs : List Loc) (lsA : Array Slot) (k j : Nat) => k1 H locs lsA k j
  cases I with
  | getfield ix =>
    simp only [sstep] at hs
    obtain ⟨hn, hd⟩ := eok_len hok rfl
    subst hn
    have hF : (clsM mi, ix, a, b) ∈ FT := by simpa [eokX] using hX
    obtain ⟨hF1, hF2⟩ := FT_lt _ hF
    dsimp only at hF1 hF2
    split at hs
    · next q r =>
      split at hs
      · next ci fs hq =>
        by_cases hci : ci = a
        · rw [if_pos hci] at hs
          subst hci
          split at hs
          · next v hv =>
            obtain ⟨rfl, rfl, rfl, rfl⟩ := some4 hs
            obtain ⟨⟨C, T, N⟩, hCL⟩ : ∃ z, CL[ci]? = some z := ⟨_, List.getElem?_eq_getElem (by exact hF2)⟩
            obtain ⟨t1, t2, t3, t4⟩ := CL_get hCL
            rw [t4] at hF1
            exact va_get hx hb hts (CL_in hCL) hown hE.1 hP q (fs := fs.map (cv B sd)) (wd_at hq) hCL b hF1 (hts _ (FT_in hCL hF)) (fun _ z => z) (by rw [List.getElem?_map, hv]; rfl) hd (kk H locs lsA k j hk hj hP hz hS hL)
          · cases hs
        · rw [if_neg hci] at hs; cases hs
      · cases hs
    · cases hs
  | putfield ix =>
    simp only [sstep] at hs
    obtain ⟨hn, hd⟩ := eok_len hok rfl
    subst hn
    have hX2 : (clsM mi, ix, a, b) ∈ FT ∧ ptOK mi a b cst = true := by simpa [eokX] using hX
    obtain ⟨hF, hT⟩ := hX2
    obtain ⟨hF1, hF2⟩ := FT_lt _ hF
    dsimp only at hF1 hF2
    split at hs
    · next v q r =>
      split at hs
      · next ci fs hq =>
        replace hs := if_some hs
        obtain ⟨⟨hci, hbl, hfk⟩, hs⟩ := hs
        subst hci
        obtain ⟨rfl, rfl, rfl, rfl⟩ := some4 hs
        obtain ⟨⟨C, T, N⟩, hCL⟩ : ∃ z, CL[ci]? = some z := ⟨_, List.getElem?_eq_getElem (by exact hF2)⟩
        obtain ⟨t1, t2, t3, t4⟩ := CL_get hCL
        rw [t4] at hF1
        simp only [ptOK, hCL, Bool.and_eq_true, Bool.or_eq_true, beq_iff_eq] at hT
        obtain ⟨hT1, hT2⟩ := hT
        have hnf : narrow (tyC ci b) (cv B sd v) = cv B sd v ∧ fits (tyC ci b) (cv B sd v) = true := by
          generalize tyC ci b = ty at hT1
          cases ty <;> simp at hT1 <;> subst hT1 <;> rcases v with z | z | z | z | z <;> simp [fkind] at hfk <;> first | exact ⟨rfl, rfl⟩ | (rcases hfk with rfl | rfl <;> first | exact ⟨nb0, fb0⟩ | exact ⟨nb1, fb1⟩)
        refine so_put hx hb hts (CL_in hCL) (tyC ci) t1 t2 hown hE.1 hP hS hCL hq hF1 hbl (hts _ (FT_in hCL hF)) ?_ hnf.1 hnf.2 hd (fun H1 locs1 p1 z1 s1 => ?_)
        · rcases hT2 with z | ⟨z1, z2⟩
          · exact Or.inl z
          · exact Or.inr ⟨hnm z1, z2⟩
        · exact kk H1 locs1 lsA k j (by rw [List.length_set]; exact hk) (by rw [slt_set (c := .inl (ci, fs.set b v)) hq rfl]; exact hj) p1 (by rw [z1, hz, List.length_set]) s1 hL
      · cases hs
    · cases hs
  | getstatic ix =>
    simp only [sstep] at hs
    obtain ⟨hn, hd⟩ := eok_len hok rfl
    subst hn
    obtain ⟨rfl, rfl, rfl, rfl⟩ := some4 hs
    have hF : (clsM mi, ix, a) ∈ ST := by simpa [eokX] using hX
    have hlt := ST_lt _ hF
    dsimp only at hlt
    obtain ⟨n9, hn9⟩ : ∃ n, SNm[a]? = some n := ⟨_, List.getElem?_eq_getElem (by exact hlt)⟩
    have hw := hts _ (ST_in hF)
    rw [hn9] at hw
    exact va_gets hx hb (hE.2.1 a n9 hn9) hS hown hw (fun _ z => z) hd (kk H locs lsA k j hk hj hP hz hS hL)
  | iaload =>
    simp only [sstep] at hs
    obtain ⟨hn, hd⟩ := eok_len hok rfl
    subst hn
    unfold aGet at hs
    split at hs
    · next i9 q r =>
      split at hs
      · next kd9 li hq =>
        replace hs := if_some hs
        obtain ⟨⟨rfl, h7, h8, h9⟩, hs⟩ := hs
        obtain ⟨rfl, rfl, rfl, rfl⟩ := some4 hs
        have q9 := kk H locs lsA k j hk hj hP hz hS hL
        refine va_iald hx hb hE.1 hP q 0 (wd_at hq) rfl (n_in h7 h9 h8) hd ?_
        rw [n_cl h7 h9]
        exact q9
      · cases hs
    · next i9 q r =>
      replace hs := if_some hs
      obtain ⟨⟨h5, h6, h7, h8, h9⟩, hs⟩ := hs
      obtain ⟨rfl, rfl, rfl, rfl⟩ := some4 hs
      exact va_ti hx hb (hE.2.2.1 q h6) hS (n_in h7 h9 h8) (by rw [n_cl h7 h9]; rfl) hd (kk H locs lsA k j hk hj hP hz hS hL)
    · cases hs
  | laload =>
    simp only [sstep] at hs
    obtain ⟨hn, hd⟩ := eok_len hok rfl
    subst hn
    unfold aGet at hs
    split at hs
    · next i9 q r =>
      split at hs
      · next kd9 li hq =>
        replace hs := if_some hs
        obtain ⟨⟨rfl, h7, h8, h9⟩, hs⟩ := hs
        obtain ⟨rfl, rfl, rfl, rfl⟩ := some4 hs
        have q9 := kk H locs lsA k j hk hj hP hz hS hL
        refine va_lald hx hb hE.1 hP q 1 (wd_at hq) rfl (n_in h7 h9 h8) hd ?_
        rw [n_cl h7 h9]
        exact q9
      · cases hs
    · next i9 q r =>
      replace hs := if_some hs
      obtain ⟨⟨h5, h6, h7, h8, h9⟩, hs⟩ := hs
      cases h5
    · cases hs
  | baload =>
    simp only [sstep] at hs
    obtain ⟨hn, hd⟩ := eok_len hok rfl
    subst hn
    unfold aGet at hs
    split at hs
    · next i9 q r =>
      split at hs
      · next kd9 li hq =>
        replace hs := if_some hs
        obtain ⟨⟨rfl, h7, h8, h9⟩, hs⟩ := hs
        obtain ⟨rfl, rfl, rfl, rfl⟩ := some4 hs
        have q9 := kk H locs lsA k j hk hj hP hz hS hL
        refine va_zald hx hb hE.1 hP q 2 (wd_at hq) rfl (n_in h7 h9 h8) hd ?_
        rw [n_cl h7 h9]
        exact q9
      · cases hs
    · next i9 q r =>
      replace hs := if_some hs
      obtain ⟨⟨h5, h6, h7, h8, h9⟩, hs⟩ := hs
      cases h5
    · cases hs
  | iastore =>
    simp only [sstep] at hs
    obtain ⟨hn, hd⟩ := eok_len hok rfl
    subst hn
    split at hs
    · next x i9 q r =>
      unfold aPut at hs
      split at hs
      · next kd9 li hq =>
        replace hs := if_some hs
        obtain ⟨⟨rfl, h7, h8, h9⟩, hs⟩ := hs
        obtain ⟨rfl, rfl, rfl, rfl⟩ := some4 hs
        exact so_iast hx hb hE.1 0 rfl hP hS hq h7 h8 h9 hd (fun H1 locs1 p1 z1 s1 => kk H1 locs1 lsA k j (by rw [List.length_set]; exact hk) (by rw [slt_set hq (by simp [csz])]; exact hj) p1 (by rw [z1, hz, List.length_set]) s1 hL)
      · cases hs
    · cases hs
  | lastore =>
    simp only [sstep] at hs
    obtain ⟨hn, hd⟩ := eok_len hok rfl
    subst hn
    split at hs
    · next x i9 q r =>
      unfold aPut at hs
      split at hs
      · next kd9 li hq =>
        replace hs := if_some hs
        obtain ⟨⟨rfl, h7, h8, h9⟩, hs⟩ := hs
        obtain ⟨rfl, rfl, rfl, rfl⟩ := some4 hs
        exact so_last hx hb hE.1 1 rfl hP hS hq h7 h8 h9 hd (fun H1 locs1 p1 z1 s1 => kk H1 locs1 lsA k j (by rw [List.length_set]; exact hk) (by rw [slt_set hq (by simp [csz])]; exact hj) p1 (by rw [z1, hz, List.length_set]) s1 hL)
      · cases hs
    · cases hs
  | bastore =>
    simp only [sstep] at hs
    obtain ⟨hn, hd⟩ := eok_len hok rfl
    subst hn
    split at hs
    · next x i9 q r =>
      replace hs := if_some hs
      obtain ⟨h10, hs⟩ := hs
      unfold aPut at hs
      split at hs
      · next kd9 li hq =>
        replace hs := if_some hs
        obtain ⟨⟨rfl, h7, h8, h9⟩, hs⟩ := hs
        obtain ⟨rfl, rfl, rfl, rfl⟩ := some4 hs
        exact so_zast hx hb hE.1 2 rfl hP hS hq h7 h8 h9 h10 hd (fun H1 locs1 p1 z1 s1 => kk H1 locs1 lsA k j (by rw [List.length_set]; exact hk) (by rw [slt_set hq (by simp [csz])]; exact hj) p1 (by rw [z1, hz, List.length_set]) s1 hL)
      · cases hs
    · cases hs
  | arraylength =>
    simp only [sstep] at hs
    obtain ⟨hn, hd⟩ := eok_len hok rfl
    subst hn
    split at hs
    · next q r =>
      split at hs
      · next kd9 li hq =>
        obtain ⟨rfl, rfl, rfl, rfl⟩ := some4 hs
        have q9 := kk H locs lsA k j hk hj hP hz hS hL
        have ha := wd_at (K := K) (B := B) (sd := sd) hq
        unfold ce at ha
        dsimp only at ha
        by_cases hk0 : kd9 = 0
        · rw [if_pos hk0] at ha
          exact va_alen hx hb hE.1 hP q 0 ha rfl (n_nat li.length).symm hd q9
        · rw [if_neg hk0] at ha
          by_cases hk1 : kd9 = 1
          · rw [if_pos hk1] at ha
            exact va_alen hx hb hE.1 hP q 1 ha rfl (n_nat li.length).symm hd q9
          · rw [if_neg hk1] at ha
            exact va_alen hx hb hE.1 hP q 2 ha rfl (n_nat li.length).symm hd q9
      · cases hs
    · next q r =>
      replace hs := if_some hs
      obtain ⟨h7, hs⟩ := hs
      obtain ⟨rfl, rfl, rfl, rfl⟩ := some4 hs
      exact va_tlen hx hb (hE.2.2.1 q h7) hS (n_nat _).symm hd (kk H locs lsA k j hk hj hP hz hS hL)
    · cases hs
  | new ix =>
    simp only [sstep] at hs
    obtain ⟨hn, hd⟩ := eok_len hok rfl
    subst hn
    obtain ⟨rfl, rfl, rfl, rfl⟩ := some4 hs
    have hF : (clsM mi, ix, a) ∈ NT := by simpa [eokX] using hX
    have hlt := NT_lt _ hF
    dsimp only at hlt
    obtain ⟨⟨C, T, N⟩, hCL⟩ : ∃ z, CL[a]? = some z := ⟨_, List.getElem?_eq_getElem (by exact hlt)⟩
    obtain ⟨t1, t2, t3, t4⟩ := CL_get hCL
    obtain ⟨u1, u2⟩ := NT_in hF
    rw [t3] at u1 u2
    rw [t4] at u2
    have hin := CN_in (o := a) (by omega)
    rw [t3] at hin
    have hsl : slt (h ++ [(.inl (a, dfC a) : HC)]) = slt h + N := by rw [slt_push]; simp [csz, t4]
    have hlen : (h ++ [(.inl (a, dfC a) : HC)]).length = h.length + 1 := by simp
    rw [hsl, hlen] at hcap
    exact so_new hx hb hts (CL_in hCL) (tyC a) t1 hown (hts _ u1) (hts _ u2) (hts _ hin) hE.1 hP hz hS hCL (fun i hi => dfC_ok B sd a hlt i (by rw [t4]; exact hi)) (by omega) (by omega) hd (fun H1 p1 z1 s1 => kk H1 locs lsA (k + 1) (j + N) (by rw [hlen]; omega) (by rw [hsl]; omega) p1 (by rw [z1, hz, hlen]; omega) s1 hL)
  | newarray t =>
    simp only [sstep] at hs
    obtain ⟨hn, hd⟩ := eok_len hok rfl
    subst hn
    obtain ⟨n, r, rfl, hs⟩ := s1_some hs
    replace hs := if_some hs
    obtain ⟨⟨h7, h8⟩, hs⟩ := hs
    cases t with
    | int =>
      obtain ⟨rfl, rfl, rfl, rfl⟩ := some4 hs
      have hsl : slt (h ++ [(.inr (0, List.replicate n.toNat 0) : HC)]) = slt h + n.toNat := by rw [slt_push]; simp [csz]
      have hlen : (h ++ [(.inr (0, List.replicate n.toNat 0) : HC)]).length = h.length + 1 := by simp
      rw [hsl, hlen] at hcap
      have hz0 : ∀ q : Nat, (List.replicate n.toNat (0 : Int)).getD q 0 = 0 := by
        intro q
        rw [List.getD_eq_getElem?_getD, List.getElem?_replicate]
        split <;> rfl
      refine so_newa hx hb (t := .int) (ty := .int) (hts _ (AR_in (t := .int) (Or.inl rfl))) rfl (hE.1.2 0 _ rfl).2 hP hz hS rfl ?_ h7 h8 (by decide) (by omega) (by omega) hd (fun H1 p1 z1 s1 => kk H1 locs lsA (k + 1) (j + n.toNat) (by rw [hlen]; omega) (by rw [hsl]; omega) p1 (by rw [z1, hz, hlen]; omega) s1 hL)
      rw [vp_cell_i, List.length_replicate]
      congr 1
      funext q
      simp only [fI, hz0]
      rfl
    | long =>
      obtain ⟨rfl, rfl, rfl, rfl⟩ := some4 hs
      have hsl : slt (h ++ [(.inr (1, List.replicate n.toNat 0) : HC)]) = slt h + n.toNat := by rw [slt_push]; simp [csz]
      have hlen : (h ++ [(.inr (1, List.replicate n.toNat 0) : HC)]).length = h.length + 1 := by simp
      rw [hsl, hlen] at hcap
      have hz0 : ∀ q : Nat, (List.replicate n.toNat (0 : Int)).getD q 0 = 0 := by
        intro q
        rw [List.getD_eq_getElem?_getD, List.getElem?_replicate]
        split <;> rfl
      refine so_newa hx hb (t := .long) (ty := .long) (hts _ (AR_in (t := .long) (Or.inr (Or.inl rfl)))) rfl (hE.1.2 1 _ rfl).2 hP hz hS rfl ?_ h7 h8 (by decide) (by omega) (by omega) hd (fun H1 p1 z1 s1 => kk H1 locs lsA (k + 1) (j + n.toNat) (by rw [hlen]; omega) (by rw [hsl]; omega) p1 (by rw [z1, hz, hlen]; omega) s1 hL)
      rw [vp_cell_l, List.length_replicate]
      congr 1
      funext q
      simp only [fL, hz0]
      rfl
    | boolean =>
      obtain ⟨rfl, rfl, rfl, rfl⟩ := some4 hs
      have hsl : slt (h ++ [(.inr (2, List.replicate n.toNat 0) : HC)]) = slt h + n.toNat := by rw [slt_push]; simp [csz]
      have hlen : (h ++ [(.inr (2, List.replicate n.toNat 0) : HC)]).length = h.length + 1 := by simp
      rw [hsl, hlen] at hcap
      have hz0 : ∀ q : Nat, (List.replicate n.toNat (0 : Int)).getD q 0 = 0 := by
        intro q
        rw [List.getD_eq_getElem?_getD, List.getElem?_replicate]
        split <;> rfl
      refine so_newa hx hb (t := .boolean) (ty := .boolean) (hts _ (AR_in (t := .boolean) (Or.inr (Or.inr rfl)))) rfl (hE.1.2 2 _ rfl).2 hP hz hS rfl ?_ h7 h8 (by decide) (by omega) (by omega) hd (fun H1 p1 z1 s1 => kk H1 locs lsA (k + 1) (j + n.toNat) (by rw [hlen]; omega) (by rw [hsl]; omega) p1 (by rw [z1, hz, hlen]; omega) s1 hL)
      rw [vp_cell_i, List.length_replicate]
      congr 1
      funext q
      simp only [fI, hz0]
      rfl
    | _ => cases hs
  | _ => exact absurd hI (by simp [fam5])

theorem step_all (bd : Bd p s m args meth c mi D K B sd xs) {pc pc' : Nat} {e0 : EN} {ls ls' st st' : List MV} {h h1 : MH} (hc : code_ mi pc = some e0) (hs : sstep xs pc e0 ls st h = some (pc', ls', st', h1)) (hcap : h1.length ≤ h0l + R.cells ∧ slt h1 ≤ h0s + R.slots) (k1 : WG p l e R s m args below meth c Q D K B sd nL h0l h0s pc' ls' st' h1) : WG p l e R s m args below meth c Q D K B sd nL h0l h0s pc ls st h := by
  obtain ⟨I, np, a, b, cst⟩ := e0
  by_cases h1 : fam1 I = true
  · exact step_1 bd h1 hc hs hcap k1
  by_cases h2 : fam2 I = true
  · exact step_2 bd h2 hc hs hcap k1
  by_cases h3 : fam3 I = true
  · exact step_3 bd h3 hc hs hcap k1
  by_cases h4 : fam4 I = true
  · exact step_4 bd h4 hc hs hcap k1
  by_cases h5 : fam5 I = true
  · exact step_5 bd h5 hc hs hcap k1
  exfalso
  cases I <;> first | exact h1 rfl | exact h2 rfl | exact h3 rfl | exact h4 rfl | exact h5 rfl | (simp [sstep] at hs; done)
end SND
