-- the world of a small heap: place i lies at the address B + i
def cv (B : Nat) (sd : Nat → Nat) : MV → Value
  | .inl z => .int (Int32.ofInt z)
  | .inr (.inl z) => .long (Int64.ofInt z)
  | .inr (.inr (.inl k)) => .ref (B + k)
  | .inr (.inr (.inr (.inl k))) => .ref (sd k)
  | .inr (.inr (.inr (.inr _))) => .null
def fI (l : List Int) : Nat → Int32 := fun j => Int32.ofInt (l.getD j 0)
def fL (l : List Int) : Nat → Int64 := fun j => Int64.ofInt (l.getD j 0)
def ce (K : Nat → ClassId) (B : Nat) (sd : Nat → Nat) : HC → va_E
  | .inl (ci, fs) => .inr (ci, fs.map (cv B sd))
  | .inr (kd, l) => if kd = 0 then .inl (K 0, l.length, .inl (fI l)) else if kd = 1 then .inl (K 1, l.length, .inr (.inl (fL l))) else .inl (K 2, l.length, .inl (fI l))
def wd (K : Nat → ClassId) (B : Nat) (sd : Nat → Nat) (h : MH) : va_W := h.mapIdx (fun i c => (B + i, ce K B sd c))
def csz : HC → Nat
  | .inl (ci, _) => nfC ci
  | .inr (_, l) => l.length
def slt (h : MH) : Nat := (h.map csz).sum
abbrev AB (B : Nat) : Nat → Prop := fun q => B ≤ q
section WD
variable {K : Nat → ClassId} {B : Nat} {sd : Nat → Nat} {h : MH} {i : Nat} {c c0 : HC}
theorem wd_get : (wd K B sd h)[i]? = (h[i]?).map (fun c => (B + i, ce K B sd c)) := by
  unfold wd
  rw [List.getElem?_mapIdx]
theorem wd_at (hq : h[i]? = some c) : (wd K B sd h)[i]? = some (B + i, ce K B sd c) := by
  rw [wd_get, hq]
  rfl
theorem wd_some {q : Nat × va_E} (hq : (wd K B sd h)[i]? = some q) : ∃ c, h[i]? = some c ∧ q = (B + i, ce K B sd c) := by
  rw [wd_get] at hq
  cases hc : h[i]? with
  | none => rw [hc] at hq; cases hq
  | some c => rw [hc] at hq; exact ⟨c, rfl, (Option.some.inj hq).symm⟩
theorem wd_set (hq : h[i]? = some c0) : (wd K B sd h).set i (B + i, ce K B sd c) = wd K B sd (h.set i c) := by
  have hl : i < h.length := (List.getElem?_eq_some_iff.mp hq).1
  apply List.ext_getElem?
  intro j
  have hl2 : i < (wd K B sd h).length := by unfold wd; rw [List.length_mapIdx]; exact hl
  by_cases hj : i = j
  · subst hj
    rw [List.getElem?_set_self hl2, wd_get, List.getElem?_set_self hl]
    rfl
  · rw [List.getElem?_set_ne hj, wd_get, wd_get, List.getElem?_set_ne hj]
theorem wd_push : wd K B sd (h ++ [c]) = wd K B sd h ++ [(B + h.length, ce K B sd c)] := by
  have hl : (wd K B sd h).length = h.length := by unfold wd; rw [List.length_mapIdx]
  apply List.ext_getElem?
  intro j
  rw [wd_get]
  by_cases hj : j < h.length
  · rw [List.getElem?_append_left hj, List.getElem?_append_left (by rw [hl]; exact hj), wd_get]
  · rw [List.getElem?_append_right (by omega), List.getElem?_append_right (by rw [hl]; omega), hl]
    by_cases hj2 : j = h.length
    · subst hj2
      simp
    · have h1 : 0 < j - h.length := by omega
      rw [List.getElem?_eq_none (by simp; omega), List.getElem?_eq_none (by simp; omega)]
      rfl
theorem wd_D : va_D (AB B) (wd K B sd h) := by
  refine ⟨fun i j p q hi hj hpq => ?_, fun k q hk => ?_⟩
  · obtain ⟨c1, -, rfl⟩ := wd_some hi
    obtain ⟨c2, -, rfl⟩ := wd_some hj
    have : B + i = B + j := hpq
    omega
  · obtain ⟨c1, -, rfl⟩ := wd_some hk
    exact Nat.le_add_right _ _
end WD
theorem slt_set {h : MH} {i : Nat} {c0 c : HC} (hq : h[i]? = some c0) (hs : csz c = csz c0) : slt (h.set i c) = slt h := by
  induction h generalizing i with
  | nil => rfl
  | cons a h ih =>
    cases i with
    | zero =>
      rw [List.getElem?_cons_zero] at hq
      cases hq
      simp [slt, hs]
    | succ i =>
      rw [List.getElem?_cons_succ] at hq
      have := ih hq
      simp only [slt, List.set_cons_succ, List.map_cons, List.sum_cons] at this ⊢
      omega
theorem slt_push {h : MH} {c : HC} : slt (h ++ [c]) = slt h + csz c := by simp [slt]
theorem fI_set {l : List Int} {j : Int} {x : Int} (h0 : 0 ≤ j) (h1 : j < l.length) (h2 : j ≤ 2147483647) : upd (fI l) (Int32.ofInt j).toNatClampNeg (Int32.ofInt x) = fI (l.set j.toNat x) := by
  rw [n_cl h0 h2]
  funext q
  unfold upd fI
  by_cases hq : q = j.toNat
  · subst hq
    rw [if_pos rfl, List.getD_eq_getElem?_getD, List.getElem?_set_self (by omega)]
    rfl
  · rw [if_neg hq, List.getD_eq_getElem?_getD, List.getD_eq_getElem?_getD, List.getElem?_set_ne (fun z => hq z.symm)]
theorem fL_set {l : List Int} {j : Int} {x : Int} (h0 : 0 ≤ j) (h1 : j < l.length) (h2 : j ≤ 2147483647) : vp_updL (fL l) (Int32.ofInt j).toNatClampNeg (Int64.ofInt x) = fL (l.set j.toNat x) := by
  rw [n_cl h0 h2]
  funext q
  unfold vp_updL fL
  by_cases hq : q = j.toNat
  · subst hq
    rw [if_pos rfl, List.getD_eq_getElem?_getD, List.getElem?_set_self (by omega)]
    rfl
  · rw [if_neg hq, List.getD_eq_getElem?_getD, List.getD_eq_getElem?_getD, List.getElem?_set_ne (fun z => hq z.symm)]
section STO
variable {p : Program} {l : Launch} {e : Env} {R : Room} {s : State} {m : MethodId} {args : Array Value} {below : List Frame} {meth : Method} {c : Code} {H : Heap} {locs : List Loc} {cells slots : Nat} {Q : State → Prop}
variable {cc : ByteArray} {pc : Nat} {ls : Array Slot} {rest : List Value} {D : va_G} {tys : List (ClassId × FieldType)} {H0 : Heap}
variable {K : Nat → ClassId} {B : Nat} {sd : Nat → Nat} {h : MH} {q : Nat} {li : List Int} {j x : Int}
theorem so_iast (hexec : p.tables.exec = Jvm.exec) (hb : c.code = cc) (hK : va_K D CL tys s) (t0 : Nat) (ht : tys[t0]? = some (K 0, .int)) (hP : va_P D CL (wd K B sd h) H) (hS : va_S (AB B) H0 H locs) (hq : h[q]? = some (.inr (0, li))) (h0 : 0 ≤ j) (h1 : j < li.length) (h2 : j ≤ 2147483647) (hdg : decode cc pc = .ok (.iastore, 1))
    (kk : ∀ (H1 : Heap) (locs1 : List Loc), va_P D CL (wd K B sd (h.set q (.inr (0, li.set j.toNat x)))) H1 → H1.size = H.size → va_S (AB B) H0 H1 locs1 → W p l e R s m args below meth c H1 locs1 cells slots Q (F0 m (pc + 1) ls rest)) : W p l e R s m args below meth c H locs cells slots Q (F0 m pc ls (.int (Int32.ofInt x) :: .int (Int32.ofInt j) :: .ref (B + q) :: rest)) := by
  have ha := wd_at (K := K) (B := B) (sd := sd) hq
  have hD := wd_D (K := K) (B := B) (sd := sd) (h := h)
  have ha : (wd K B sd h)[q]? = some (B + q, .inl (K 0, li.length, .inl (fI li))) := ha
  refine W.iast hexec hb (hP q _ ha) ((hK.2 t0 _ ht).1 li.length (fun j => .int (fI li j))) (fun q => by cases q) (by show ¬ (_ < 0 ∨ (arrV _ _ _).slots.size ≤ _); rw [arrV_size]; exact n_in h0 h2 h1) rfl rfl hdg fun H1 e z oq => ?_
  refine kk H1 _ ?_ z (hS.put z oq (Nat.le_add_right _ _))
  have hP1 := hP.set (H1 := H1) hD ha (e := .inl (K 0, li.length, .inl (upd (fI li) (Int32.ofInt j).toNatClampNeg (Int32.ofInt x)))) ?_ oq
  · rw [fI_set h0 h1 h2] at hP1
    have hw := wd_set (K := K) (B := B) (sd := sd) (c := .inr (0, li.set j.toNat x)) hq
    have hw : (wd K B sd h).set q (B + q, .inl (K 0, (li.set j.toNat x).length, .inl (fI (li.set j.toNat x)))) = wd K B sd (h.set q (.inr (0, li.set j.toNat x))) := hw
    rw [List.length_set] at hw
    rw [hw] at hP1
    exact hP1
  · show H1[B + q]? = some (vp_cell _ _)
    rw [e, vp_cell_i, vp_cell_i, arrV_store]
    congr 2
    funext z
    by_cases hz : z = (Int32.ofInt j).toNatClampNeg
    · subst hz
      simp [updV, upd]
    · simp [updV, upd, hz]
theorem so_zast (hexec : p.tables.exec = Jvm.exec) (hb : c.code = cc) (hK : va_K D CL tys s) (t0 : Nat) (ht : tys[t0]? = some (K 2, .boolean)) (hP : va_P D CL (wd K B sd h) H) (hS : va_S (AB B) H0 H locs) (hq : h[q]? = some (.inr (2, li))) (h0 : 0 ≤ j) (h1 : j < li.length) (h2 : j ≤ 2147483647) (hx : x = 0 ∨ x = 1) (hdg : decode cc pc = .ok (.bastore, 1))
    (kk : ∀ (H1 : Heap) (locs1 : List Loc), va_P D CL (wd K B sd (h.set q (.inr (2, li.set j.toNat x)))) H1 → H1.size = H.size → va_S (AB B) H0 H1 locs1 → W p l e R s m args below meth c H1 locs1 cells slots Q (F0 m (pc + 1) ls rest)) : W p l e R s m args below meth c H locs cells slots Q (F0 m pc ls (.int (Int32.ofInt x) :: .int (Int32.ofInt j) :: .ref (B + q) :: rest)) := by
  have ha := wd_at (K := K) (B := B) (sd := sd) hq
  have hD := wd_D (K := K) (B := B) (sd := sd) (h := h)
  have ha : (wd K B sd h)[q]? = some (B + q, .inl (K 2, li.length, .inl (fI li))) := ha
  have hnx : narrow .boolean (.int (Int32.ofInt x)) = .int (Int32.ofInt x) := by rcases hx with rfl | rfl <;> decide
  refine W.zast hexec hb (hP q _ ha) ((hK.2 t0 _ ht).1 li.length (fun j => .int (fI li j))) (fun q => by cases q) (by show ¬ (_ < 0 ∨ (arrV _ _ _).slots.size ≤ _); rw [arrV_size]; exact n_in h0 h2 h1) rfl rfl hdg fun H1 e z oq => ?_
  rw [hnx] at e
  refine kk H1 _ ?_ z (hS.put z oq (Nat.le_add_right _ _))
  have hP1 := hP.set (H1 := H1) hD ha (e := .inl (K 2, li.length, .inl (upd (fI li) (Int32.ofInt j).toNatClampNeg (Int32.ofInt x)))) ?_ oq
  · rw [fI_set h0 h1 h2] at hP1
    have hw := wd_set (K := K) (B := B) (sd := sd) (c := .inr (2, li.set j.toNat x)) hq
    have hw : (wd K B sd h).set q (B + q, .inl (K 2, (li.set j.toNat x).length, .inl (fI (li.set j.toNat x)))) = wd K B sd (h.set q (.inr (2, li.set j.toNat x))) := hw
    rw [List.length_set] at hw
    rw [hw] at hP1
    exact hP1
  · show H1[B + q]? = some (vp_cell _ _)
    rw [e, vp_cell_i, vp_cell_i, arrV_store]
    congr 2
    funext z
    by_cases hz : z = (Int32.ofInt j).toNatClampNeg
    · subst hz
      simp [updV, upd]
    · simp [updV, upd, hz]
theorem so_last (hexec : p.tables.exec = Jvm.exec) (hb : c.code = cc) (hK : va_K D CL tys s) (t0 : Nat) (ht : tys[t0]? = some (K 1, .long)) (hP : va_P D CL (wd K B sd h) H) (hS : va_S (AB B) H0 H locs) (hq : h[q]? = some (.inr (1, li))) (h0 : 0 ≤ j) (h1 : j < li.length) (h2 : j ≤ 2147483647) (hdg : decode cc pc = .ok (.lastore, 1))
    (kk : ∀ (H1 : Heap) (locs1 : List Loc), va_P D CL (wd K B sd (h.set q (.inr (1, li.set j.toNat x)))) H1 → H1.size = H.size → va_S (AB B) H0 H1 locs1 → W p l e R s m args below meth c H1 locs1 cells slots Q (F0 m (pc + 1) ls rest)) : W p l e R s m args below meth c H locs cells slots Q (F0 m pc ls (.long (Int64.ofInt x) :: .int (Int32.ofInt j) :: .ref (B + q) :: rest)) := by
  have ha := wd_at (K := K) (B := B) (sd := sd) hq
  have hD := wd_D (K := K) (B := B) (sd := sd) (h := h)
  have ha : (wd K B sd h)[q]? = some (B + q, .inl (K 1, li.length, .inr (.inl (fL li)))) := ha
  refine W.last hexec hb (hP q _ ha) ((hK.2 t0 _ ht).1 li.length (fun j => .long (fL li j))) (fun q => by cases q) (by show ¬ (_ < 0 ∨ (arrV _ _ _).slots.size ≤ _); rw [arrV_size]; exact n_in h0 h2 h1) rfl rfl hdg fun H1 e z oq => ?_
  refine kk H1 _ ?_ z (hS.put z oq (Nat.le_add_right _ _))
  have hP1 := hP.set (H1 := H1) hD ha (e := .inl (K 1, li.length, .inr (.inl (vp_updL (fL li) (Int32.ofInt j).toNatClampNeg (Int64.ofInt x))))) ?_ oq
  · rw [fL_set h0 h1 h2] at hP1
    have hw := wd_set (K := K) (B := B) (sd := sd) (c := .inr (1, li.set j.toNat x)) hq
    have hw : (wd K B sd h).set q (B + q, .inl (K 1, (li.set j.toNat x).length, .inr (.inl (fL (li.set j.toNat x))))) = wd K B sd (h.set q (.inr (1, li.set j.toNat x))) := hw
    rw [List.length_set] at hw
    rw [hw] at hP1
    exact hP1
  · show H1[B + q]? = some (vp_cell _ _)
    rw [e, vp_cell_l, vp_cell_l, arrV_store]
    congr 2
    funext z
    by_cases hz : z = (Int32.ofInt j).toNatClampNeg
    · subst hz
      simp [updV, vp_updL]
    · simp [updV, vp_updL, hz]
theorem so_putA {ci : Nat} {fs : List MV} {v : MV} {k : Nat} {H1 : Heap} {C : String} {T : u_T} {N : Nat} {cell : Cell} {own : String} {Ts : List Jvm.Cond} (hts : ∀ w ∈ Ts, w.before args s = true) (hin : ∀ w ∈ u_ws C T N, w ∈ Ts) (ty0 : Nat → FieldType) (hty : ∀ k, k < N → parseFieldDescriptor (T k).2.2.1 = some (ty0 k)) (hnm : ∀ a, a < N → ∀ b, b < N → a ≠ b → (T a).2.1 ≠ (T b).2.1) (hK : va_K D CL tys s) (hP : va_P D CL (wd K B sd h) H) (hc : CL[ci]? = some (C, T, N)) (hq : h[q]? = some (.inl (ci, fs))) (hk : k < N) (hl : k < fs.length)
    (q2 : cell.cls = D.1 ci) (q3 : cell.vm = .none) (q4 : ∀ k, k < N → cell.slots[D.2 ci k]? = some (vp_V (fs.map (cv B sd)) k)) (e1 : H1[B + q]? = some (cell.setSlot (D.2 ci k) (cv B sd v))) (oq : ∀ z : Nat, z ≠ B + q → H1[z]? = H[z]?) : va_P D CL (wd K B sd (h.set q (.inl (ci, fs.set k v)))) H1 := by
  have hap := va_apart (own := own) hts hin ty0 hty hnm hK hc
  have ha : (wd K B sd h)[q]? = some (B + q, .inr (ci, fs.map (cv B sd))) := wd_at hq
  have hw := wd_set (K := K) (B := B) (sd := sd) (c := .inl (ci, fs.set k v)) hq
  have hw : (wd K B sd h).set q (B + q, .inr (ci, (fs.set k v).map (cv B sd))) = wd K B sd (h.set q (.inl (ci, fs.set k v))) := hw
  rw [← hw]
  refine hP.set wd_D ha ⟨_, hc, ?_⟩ oq
  refine t_OB.to (V := updV (vp_V (fs.map (cv B sd))) k (cv B sd v)) ⟨_, e1, q2, q3, t_set q4 hap hk _⟩ (fun j _ => ?_)
  rw [vp_updV_set (by rw [List.length_map]; exact hl), List.map_set]
theorem so_put {ci ix : Nat} {fs : List MV} {v : MV} {k : Nat} {C : String} {T : u_T} {N : Nat} {own : String} {Ts : List Jvm.Cond} (hexec : p.tables.exec = Jvm.exec) (hb : c.code = cc) (hts : ∀ w ∈ Ts, w.before args s = true) (hin : ∀ w ∈ u_ws C T N, w ∈ Ts) (ty0 : Nat → FieldType) (hty : ∀ k, k < N → parseFieldDescriptor (T k).2.2.1 = some (ty0 k)) (hnm : ∀ a, a < N → ∀ b, b < N → a ≠ b → (T a).2.1 ≠ (T b).2.1) (hown : s.vm.findClass own = some m.cls) (hK : va_K D CL tys s) (hP : va_P D CL (wd K B sd h) H) (hS : va_S (AB B) H0 H locs) (hc : CL[ci]? = some (C, T, N)) (hq : h[q]? = some (.inl (ci, fs))) (hk : k < N) (hl : k < fs.length)
    (hlink : (Jvm.Cond.fieldLink own ix (T k).1 (T k).2.1 (T k).2.2.1).before args s = true) (hfin : (T k).2.2.2 = false ∨ (meth.name = "<init>" ∧ (T k).1 = own)) (hn : narrow (ty0 k) (cv B sd v) = cv B sd v) (hfit : fits (ty0 k) (cv B sd v) = true) (hdg : decode cc pc = .ok (.putfield ix, 3))
    (kk : ∀ (H1 : Heap) (locs1 : List Loc), va_P D CL (wd K B sd (h.set q (.inl (ci, fs.set k v)))) H1 → H1.size = H.size → va_S (AB B) H0 H1 locs1 → W p l e R s m args below meth c H1 locs1 cells slots Q (F0 m (pc + 3) ls rest)) : W p l e R s m args below meth c H locs cells slots Q (F0 m pc ls (cv B sd v :: .ref (B + q) :: rest)) := by
  have ha : (wd K B sd h)[q]? = some (B + q, .inr (ci, fs.map (cv B sd))) := wd_at hq
  obtain ⟨r, h1, cell, q1, q2, q3, q4⟩ := hP q _ ha
  have hr : r = (C, T, N) := Option.some.inj (h1.symm.trans hc)
  subst hr
  obtain ⟨hS', hfc, kC, hkC, hkind⟩ := hK.1 ci _ hc
  obtain ⟨cf, kf, fi, f, hi, hsl⟩ := hS' k hk
  have hst := (u_facts hfc hkC (u_lays hts hin hk) hi).1
  by_cases hf : (T k).2.2.2 = false
  · have hlay := hts _ (hin _ (u_in_lay hk))
    unfold u_lay at hlay
    rw [if_neg (by rw [hf]; decide)] at hlay
    have h6 := u_store hfc hkC hkind hlay hi (hty k hk) hn hfit
    refine W.putK hexec hb (f := f) ⟨hown, hlink, ⟨_, _, _, hi⟩, hst⟩ (by rw [q2]; exact h6) q1 q3 (by rw [hsl]; exact k2_hasslot (q4 k hk)) rfl rfl hdg fun H' e1 e2 e3 => ?_
    rw [hsl] at e1 ⊢
    exact kk H' _ (so_putA (own := own) hts hin ty0 hty hnm hK hP hc hq hk hl q2 q3 q4 e1 e3) e2 (hS.put e2 e3 (Nat.le_add_right _ _))
  · have hf2 : (T k).2.2.2 = true := by simpa using hf
    obtain ⟨hin2, hdecl⟩ : meth.name = "<init>" ∧ (T k).1 = own := by
      rcases hfin with z | z
      · exact absurd z hf
      · exact z
    have hlay := hts _ (hin _ (u_in_lay hk))
    unfold u_lay at hlay
    rw [if_pos hf2] at hlay
    have hcf : m.cls = cf := by
      obtain ⟨_, _, c', _, _, _, -, -, hf', -, -, -, hown2, -⟩ := Cond.laysFinal_spec hlay
      have e1 : c' = cf := by have := hi.symm.trans hf'; simp at this; exact this.1.symm
      rw [hdecl] at hown2
      rw [← e1]; exact Option.some.inj (hown.symm.trans hown2)
    have h6 := u_fits hfc hkC hkind (Or.inr hlay) hi (hty k hk) hn hfit
    refine W.putFinK hexec hb hown hlink hi hst hcf hin2 (by rw [q2]; exact h6) q1 q3 (by rw [hsl]; exact k2_hasslot (q4 k hk)) rfl rfl hdg fun H' e1 e2 e3 => ?_
    rw [hsl] at e1 ⊢
    exact kk H' _ (so_putA (own := own) hts hin ty0 hty hnm hK hP hc hq hk hl q2 q3 q4 e1 e3) e2 (hS.put e2 e3 (Nat.le_add_right _ _))
theorem so_newP {H1 : Heap} {n : Nat} {cl : HC} (hP : va_P D CL (wd K B sd h) H) (hz : H.size = B + h.length) (o1 : ∀ z : Nat, z < H.size → H1[z]? = H[z]?) (he : va_at D CL (B + h.length, ce K B sd cl) H1) : va_P D CL (wd K B sd (h ++ [cl])) H1 := by
  rw [wd_push]
  refine (hP.kept (fun k x hx => o1 x.1 ((hP k x hx).lt))).app (fun k x hx => ?_)
  have hz1 : k < 1 := (List.getElem?_eq_some_iff.mp hx).1
  rw [show k = 0 by omega] at hx
  cases hx
  exact he
theorem so_new {a ix : Nat} {C : String} {T : u_T} {N : Nat} {own : String} {Ts : List Jvm.Cond} (hexec : p.tables.exec = Jvm.exec) (hb : c.code = cc) (hts : ∀ w ∈ Ts, w.before args s = true) (hin : ∀ w ∈ u_ws C T N, w ∈ Ts) (ty0 : Nat → FieldType) (hty : ∀ k, k < N → parseFieldDescriptor (T k).2.2.1 = some (ty0 k)) (hown : s.vm.findClass own = some m.cls) (hcl : (Jvm.Cond.classLink own ix C).before args s = true) (hinst : (Jvm.Cond.instantiable C N).before args s = true) (hini : (Jvm.Cond.initialized C).before args s = true)
    (hK : va_K D CL tys s) (hP : va_P D CL (wd K B sd h) H) (hz : H.size = B + h.length) (hS : va_S (AB B) H0 H locs) (hc : CL[a]? = some (C, T, N)) (hfs : ∀ j, j < N → defaultValue (ty0 j) = vp_V ((dfC a).map (cv B sd)) j) (hcells : cells + 1 ≤ R.cells) (hslots : slots + N ≤ R.slots) (hdg : decode cc pc = .ok (.new ix, 3))
    (kk : ∀ (H1 : Heap), va_P D CL (wd K B sd (h ++ [.inl (a, dfC a)])) H1 → H1.size = H.size + 1 → va_S (AB B) H0 H1 locs → W p l e R s m args below meth c H1 locs (cells + 1) (slots + N) Q (F0 m (pc + 3) ls (.ref (B + h.length) :: rest))) : W p l e R s m args below meth c H locs cells slots Q (F0 m pc ls rest) := by
  have hKn := hK.1 a _ hc
  refine W.newcK hexec hb hown hcl hinst hini rfl hdg hcells hslots hKn.2.1 hz fun H1 kC hkC e1 z1 o1 => ?_
  rw [← hz] at o1
  refine kk H1 (so_newP (n := 0) hP hz o1 ?_) (by rw [z1, hz]) ⟨Nat.le_trans hS.1 (by omega), fun x h1 h2 => (o1 x (Nat.lt_of_lt_of_le h1 hS.1)).trans (hS.2.1 x h1 h2), hS.2.2⟩
  exact ⟨_, hc, (u_born ty0 hts hin hKn hkC e1 hty).to hfs⟩
theorem so_newa {t : ArrayType} {n : Int} {ty : FieldType} {cA : ClassId} {a0 : vp_A} {cl : HC} (hexec : p.tables.exec = Jvm.exec) (hb : c.code = cc) (harr : (Jvm.Cond.arrayClass (newarray.typeOf t)).before args s = true) (hty : newarray.typeOf t = ty) (hfind : s.vm.findClass ("[" ++ ty.toString) = some cA) (hP : va_P D CL (wd K B sd h) H) (hz : H.size = B + h.length) (hS : va_S (AB B) H0 H locs)
    (hce : ce K B sd cl = .inl (cA, a0)) (ha0 : vp_cell cA a0 = arrV cA n.toNat (fun _ => defaultValue ty)) (h0 : 0 ≤ n) (h1 : n ≤ 1000000) (hcb : componentBytes ty ≤ 8) (hcells : cells + 1 ≤ R.cells) (hslots : slots + n.toNat ≤ R.slots) (hdg : decode cc pc = .ok (.newarray t, 2))
    (kk : ∀ (H1 : Heap), va_P D CL (wd K B sd (h ++ [cl])) H1 → H1.size = H.size + 1 → va_S (AB B) H0 H1 locs → W p l e R s m args below meth c H1 locs (cells + 1) (slots + n.toNat) Q (F0 m (pc + 2) ls (.ref (B + h.length) :: rest))) : W p l e R s m args below meth c H locs cells slots Q (F0 m pc ls (.int (Int32.ofInt n) :: rest)) := by
  subst hty
  have hN : (Int32.ofInt n).toNatClampNeg = n.toNat := n_cl h0 (by omega)
  refine va_newaK hexec hb harr rfl hdg rfl (n_neg0 h0 (by omega)) hN ?_ hcells hslots hz fun H1 cA' e1 z1 o1 hAr hNm => ?_
  · have : n.toNat ≤ 1000000 := by omega
    calc n.toNat * componentBytes (newarray.typeOf t) ≤ 1000000 * 8 := Nat.mul_le_mul this hcb
      _ ≤ 536870912 := by decide
  · have hcA : cA' = cA := Option.some.inj (hNm.symm.trans hfind)
    subst hcA
    rw [← hz] at o1
    refine kk H1 (so_newP (n := 0) hP hz o1 ?_) (by rw [z1, hz]) ⟨Nat.le_trans hS.1 (by omega), fun x h1 h2 => (o1 x (Nat.lt_of_lt_of_le h1 hS.1)).trans (hS.2.1 x h1 h2), hS.2.2⟩
    rw [hce]
    show H1[B + h.length]? = some (vp_cell _ _)
    rw [ha0]
    exact e1
end STO
