-- class and reference side by side: one call
section C86
variable {xs : List Int} {w ss : List Int} {cn pl pk pr pn ac st re fg : Int} {we pc : List Int} {li sl : Int} {wt pb sh sd rw : List Int} {sn fd i1 : Int} {w1 sh1 sd1 rw1 : List Int} {sn1 fd1 i2 : Int} {w2 sh2 sd2 rw2 : List Int} {sn2 fd2 : Int} {wd : List Int} {R : MH}
variable {mn mc sm om ga mr ma ax : Int} {b v sv dv fa gr ng wy im kp : List Int}
def IM (i : Int) (w1 sh1 sd1 rw1 : List Int) (sn1 fd1 n : Int) (im kp : List Int) : Prop := (i = 0 ∨ i = 1) ∧ at_ kp n = i ∧ WF w1 ∧ SgOK sh1 sd1 rw1 sn1 fd1 ∧ (i = 1 → ∃ sv1 : List Int, SgR sv1 sh1 sd1 ∧ ImR n im w1 sv1 sn1)
def CK (w ss : List Int) (cn pl : Int) (we pc wt pb sh sd rw : List Int) (sn fd i1 : Int) (w1 sh1 sd1 rw1 : List Int) (sn1 fd1 i2 : Int) (w2 sh2 sd2 rw2 : List Int) (sn2 fd2 : Int) (wd sv im kp : List Int) : Prop := WF w ∧ PdOK ss cn pl ∧ we.length = 21 ∧ CB pc ∧ (PB pb ∧ wt.length = 21) ∧ SgOK sh sd rw sn fd ∧ IM i1 w1 sh1 sd1 rw1 sn1 fd1 0 im kp ∧ IM i2 w2 sh2 sd2 rw2 sn2 fd2 1 im kp ∧ wd.length = 21 ∧ SgR sv sh sd ∧ im.length = 80 ∧ kp.length = 2
def Inv (h : MH) : Prop := ∃ (w ss : List Int) (cn pl pk pr pn ac st re fg : Int) (we pc : List Int) (li sl : Int) (wt pb sh sd rw : List Int) (sn fd i1 : Int) (w1 sh1 sd1 rw1 : List Int) (sn1 fd1 i2 : Int) (w2 sh2 sd2 rw2 : List Int) (sn2 fd2 : Int) (wd : List Int) (sm om ga mr ma ax : Int) (v sv fa gr ng wy im kp : List Int), CK w ss cn pl we pc wt pb sh sd rw sn fd i1 w1 sh1 sd1 rw1 sn1 fd1 i2 w2 sh2 sd2 rw2 sn2 fd2 wd sv im kp ∧ JL v fa gr ng wy ∧ h = (hp w ss cn pl pk pr pn ac st re fg we pc li sl wt pb sh sd rw sn fd i1 w1 sh1 sd1 rw1 sn1 fd1 i2 w2 sh2 sd2 rw2 sn2 fd2 wd (rf sn cn sm om ga mr ma ax w v sv ss fa gr ng wy im kp))
def STP (xs : List Int) (mF mM : Nat) (as_ : List MV) (h : MH) : Prop := ∃ (r : Int) (h1 h2 : MH), Sp xs mF (vR 0 :: as_) h (some (vI r)) h1 ∧ Sp xs mM (vR 40 :: as_) h1 (some (vI r)) h2 ∧ Inv h2 ∧ inR r ∧ ∃ fs : List MV, h1[40]? = some (.inl (8, fs))
def STL (xs : List Int) (mF mM : Nat) (as_ : List MV) (h : MH) : Prop := ∃ (r : Int) (h1 h2 : MH), Sp xs mF (vR 0 :: as_) h (some (vL r)) h1 ∧ Sp xs mM (vR 40 :: as_) h1 (some (vL r)) h2 ∧ Inv h2 ∧ inL r ∧ ∃ fs : List MV, h1[40]? = some (.inl (8, fs))
theorem inv0 (hC : CK w ss cn pl we pc wt pb sh sd rw sn fd i1 w1 sh1 sd1 rw1 sn1 fd1 i2 w2 sh2 sd2 rw2 sn2 fd2 wd sv im kp) (hJ : JL v fa gr ng wy) : Inv (hp w ss cn pl pk pr pn ac st re fg we pc li sl wt pb sh sd rw sn fd i1 w1 sh1 sd1 rw1 sn1 fd1 i2 w2 sh2 sd2 rw2 sn2 fd2 wd (rf sn cn sm om ga mr ma ax w v sv ss fa gr ng wy im kp)) := ⟨w, ss, cn, pl, pk, pr, pn, ac, st, re, fg, we, pc, li, sl, wt, pb, sh, sd, rw, sn, fd, i1, w1, sh1, sd1, rw1, sn1, fd1, i2, w2, sh2, sd2, rw2, sn2, fd2, wd, sm, om, ga, mr, ma, ax, v, sv, fa, gr, ng, wy, im, kp, hC, hJ, rfl⟩
theorem hp_z : ∃ c : Nat → HC, ∀ Q : MH, (hp w ss cn pl pk pr pn ac st re fg we pc li sl wt pb sh sd rw sn fd i1 w1 sh1 sd1 rw1 sn1 fd1 i2 w2 sh2 sd2 rw2 sn2 fd2 wd Q) = z40 c Q := ⟨fun k => ((hp w ss cn pl pk pr pn ac st re fg we pc li sl wt pb sh sd rw sn fd i1 w1 sh1 sd1 rw1 sn1 fd1 i2 w2 sh2 sd2 rw2 sn2 fd2 wd ([]))).getD k (.inr (0, [])), fun Q => rfl⟩
theorem fin {mF mM : Nat} {as_ : List MV} {h0 Q : MH} {fs : List MV} {r : Int} (hF : Sp xs mF (vR 0 :: as_) h0 (some (vI r)) (hp w ss cn pl pk pr pn ac st re fg we pc li sl wt pb sh sd rw sn fd i1 w1 sh1 sd1 rw1 sn1 fd1 i2 w2 sh2 sd2 rw2 sn2 fd2 wd (.inl (8, fs) :: Q))) (hC : CK w ss cn pl we pc wt pb sh sd rw sn fd i1 w1 sh1 sd1 rw1 sn1 fd1 i2 w2 sh2 sd2 rw2 sn2 fd2 wd sv im kp) (hM : ∀ c : Nat → HC, MSp xs mM (vR 40 :: as_) (z40 c (.inl (8, fs) :: Q)) (vI r) c sn cn w sv ss im kp) (hr : inR r) : STP xs mF mM as_ h0 := by
  obtain ⟨c, hc⟩ := hp_z (w := w) (ss := ss) (cn := cn) (pl := pl) (pk := pk) (pr := pr) (pn := pn) (ac := ac) (st := st) (re := re) (fg := fg) (we := we) (pc := pc) (li := li) (sl := sl) (wt := wt) (pb := pb) (sh := sh) (sd := sd) (rw := rw) (sn := sn) (fd := fd) (i1 := i1) (w1 := w1) (sh1 := sh1) (sd1 := sd1) (rw1 := rw1) (sn1 := sn1) (fd1 := fd1) (i2 := i2) (w2 := w2) (sh2 := sh2) (sd2 := sd2) (rw2 := rw2) (sn2 := sn2) (fd2 := fd2) (wd := wd)
  obtain ⟨h2, ⟨sm', om', ga', mr', ma', ax', v', fa', gr', ng', wy', hJ', e⟩, hS⟩ := hM c
  refine ⟨r, _, h2, hF, ?_, ?_, hr, fs, rfl⟩
  · rw [hc (.inl (8, fs) :: Q)]; exact hS
  · rw [e, ← hc]
    exact inv0 hC hJ'
theorem finL {mF mM : Nat} {as_ : List MV} {h0 Q : MH} {fs : List MV} {r : Int} (hF : Sp xs mF (vR 0 :: as_) h0 (some (vL r)) (hp w ss cn pl pk pr pn ac st re fg we pc li sl wt pb sh sd rw sn fd i1 w1 sh1 sd1 rw1 sn1 fd1 i2 w2 sh2 sd2 rw2 sn2 fd2 wd (.inl (8, fs) :: Q))) (hC : CK w ss cn pl we pc wt pb sh sd rw sn fd i1 w1 sh1 sd1 rw1 sn1 fd1 i2 w2 sh2 sd2 rw2 sn2 fd2 wd sv im kp) (hM : ∀ c : Nat → HC, MSp xs mM (vR 40 :: as_) (z40 c (.inl (8, fs) :: Q)) (vL r) c sn cn w sv ss im kp) (hr : inL r) : STL xs mF mM as_ h0 := by
  obtain ⟨c, hc⟩ := hp_z (w := w) (ss := ss) (cn := cn) (pl := pl) (pk := pk) (pr := pr) (pn := pn) (ac := ac) (st := st) (re := re) (fg := fg) (we := we) (pc := pc) (li := li) (sl := sl) (wt := wt) (pb := pb) (sh := sh) (sd := sd) (rw := rw) (sn := sn) (fd := fd) (i1 := i1) (w1 := w1) (sh1 := sh1) (sd1 := sd1) (rw1 := rw1) (sn1 := sn1) (fd1 := fd1) (i2 := i2) (w2 := w2) (sh2 := sh2) (sd2 := sd2) (rw2 := rw2) (sn2 := sn2) (fd2 := fd2) (wd := wd)
  obtain ⟨h2, ⟨sm', om', ga', mr', ma', ax', v', fa', gr', ng', wy', hJ', e⟩, hS⟩ := hM c
  refine ⟨r, _, h2, hF, ?_, ?_, hr, fs, rfl⟩
  · rw [hc (.inl (8, fs) :: Q)]; exact hS
  · rw [e, ← hc]
    exact inv0 hC hJ'
theorem st_slide {a y : Int} (hC : CK w ss cn pl we pc wt pb sh sd rw sn fd i1 w1 sh1 sd1 rw1 sn1 fd1 i2 w2 sh2 sd2 rw2 sn2 fd2 wd sv im kp) (hJ : JL v fa gr ng wy) (ha : inR a) (hy : inR y) : STP xs m_F_slide m_M_slide [vI a, vI y] (hp w ss cn pl pk pr pn ac st re fg we pc li sl wt pb sh sd rw sn fd i1 w1 sh1 sd1 rw1 sn1 fd1 i2 w2 sh2 sd2 rw2 sn2 fd2 wd (rf sn cn sm om ga mr ma ax w v sv ss fa gr ng wy im kp)) := by
  obtain ⟨c1, c2, c3, c4, c5, c6, c7, c8, c9, c10, c11, c12⟩ := id hC
  exact fin (sp_F_slide c1 ha hy) ⟨wf_slW c1, c2, c3, c4, c5, c6, c7, c8, c9, c10, c11, c12⟩ (fun c => sp_M_slide hJ c1 ha hy) (g_sl c1)
theorem st_hold {a y : Int} (hC : CK w ss cn pl we pc wt pb sh sd rw sn fd i1 w1 sh1 sd1 rw1 sn1 fd1 i2 w2 sh2 sd2 rw2 sn2 fd2 wd sv im kp) (hJ : JL v fa gr ng wy) (ha : inR a) (hy : y = 0 ∨ y = 1) : STP xs m_F_hold m_M_hold [vI a, vI y] (hp w ss cn pl pk pr pn ac st re fg we pc li sl wt pb sh sd rw sn fd i1 w1 sh1 sd1 rw1 sn1 fd1 i2 w2 sh2 sd2 rw2 sn2 fd2 wd (rf sn cn sm om ga mr ma ax w v sv ss fa gr ng wy im kp)) := by
  obtain ⟨c1, c2, c3, c4, c5, c6, c7, c8, c9, c10, c11, c12⟩ := id hC
  exact fin (sp_F_hold c1 ha hy) ⟨wf_hoW c1 hy, c2, c3, c4, c5, c6, c7, c8, c9, c10, c11, c12⟩ (fun c => sp_M_hold hJ c1 ha hy) (g_ho c1 hy)
theorem st_ball {a y : Int} (hC : CK w ss cn pl we pc wt pb sh sd rw sn fd i1 w1 sh1 sd1 rw1 sn1 fd1 i2 w2 sh2 sd2 rw2 sn2 fd2 wd sv im kp) (hJ : JL v fa gr ng wy) (ha : inR a) (hy : inR y) : STP xs m_F_ball m_M_ball [vI a, vI y] (hp w ss cn pl pk pr pn ac st re fg we pc li sl wt pb sh sd rw sn fd i1 w1 sh1 sd1 rw1 sn1 fd1 i2 w2 sh2 sd2 rw2 sn2 fd2 wd (rf sn cn sm om ga mr ma ax w v sv ss fa gr ng wy im kp)) := by
  obtain ⟨c1, c2, c3, c4, c5, c6, c7, c8, c9, c10, c11, c12⟩ := id hC
  exact fin (sp_F_ball c1 ha hy) ⟨wf_baW c1, c2, c3, c4, c5, c6, c7, c8, c9, c10, c11, c12⟩ (fun c => sp_M_ball hJ c1 ha hy) g_ba
theorem st_goals {a y : Int} (hC : CK w ss cn pl we pc wt pb sh sd rw sn fd i1 w1 sh1 sd1 rw1 sn1 fd1 i2 w2 sh2 sd2 rw2 sn2 fd2 wd sv im kp) (hJ : JL v fa gr ng wy) (ha : inR a) (hy : inR y) : STP xs m_F_goals m_M_goals [vI a, vI y] (hp w ss cn pl pk pr pn ac st re fg we pc li sl wt pb sh sd rw sn fd i1 w1 sh1 sd1 rw1 sn1 fd1 i2 w2 sh2 sd2 rw2 sn2 fd2 wd (rf sn cn sm om ga mr ma ax w v sv ss fa gr ng wy im kp)) := by
  obtain ⟨c1, c2, c3, c4, c5, c6, c7, c8, c9, c10, c11, c12⟩ := id hC
  exact fin (sp_F_goals c1 ha hy) ⟨wf_goW c1, c2, c3, c4, c5, c6, c7, c8, c9, c10, c11, c12⟩ (fun c => sp_M_goals hJ c1 ha hy) (g_go c1)
theorem st_say {a : Int} (hC : CK w ss cn pl we pc wt pb sh sd rw sn fd i1 w1 sh1 sd1 rw1 sn1 fd1 i2 w2 sh2 sd2 rw2 sn2 fd2 wd sv im kp) (hJ : JL v fa gr ng wy) (ha : inR a) : STP xs m_F_say m_M_say [vI a] (hp w ss cn pl pk pr pn ac st re fg we pc li sl wt pb sh sd rw sn fd i1 w1 sh1 sd1 rw1 sn1 fd1 i2 w2 sh2 sd2 rw2 sn2 fd2 wd (rf sn cn sm om ga mr ma ax w v sv ss fa gr ng wy im kp)) := by
  obtain ⟨c1, c2, c3, c4, c5, c6, c7, c8, c9, c10, c11, c12⟩ := id hC
  exact fin (sp_F_say c2 ha) ⟨c1, pd_say c2, c3, c4, c5, c6, c7, c8, c9, c10, c11, c12⟩ (fun c => sp_M_say hJ c2 ha) (g_sy c2)
theorem st_wipe (hC : CK w ss cn pl we pc wt pb sh sd rw sn fd i1 w1 sh1 sd1 rw1 sn1 fd1 i2 w2 sh2 sd2 rw2 sn2 fd2 wd sv im kp) (hJ : JL v fa gr ng wy) : STP xs m_F_wipe m_M_wipe [] (hp w ss cn pl pk pr pn ac st re fg we pc li sl wt pb sh sd rw sn fd i1 w1 sh1 sd1 rw1 sn1 fd1 i2 w2 sh2 sd2 rw2 sn2 fd2 wd (rf sn cn sm om ga mr ma ax w v sv ss fa gr ng wy im kp)) := by
  obtain ⟨c1, c2, c3, c4, c5, c6, c7, c8, c9, c10, c11, c12⟩ := id hC
  exact fin (sp_F_wipe c2) ⟨c1, pd_0 c2 c2.2.2.2.1, c3, c4, c5, c6, c7, c8, c9, c10, c11, c12⟩ (fun c => sp_M_wipe hJ) (g_cn c2)
theorem st_fault (hC : CK w ss cn pl we pc wt pb sh sd rw sn fd i1 w1 sh1 sd1 rw1 sn1 fd1 i2 w2 sh2 sd2 rw2 sn2 fd2 wd sv im kp) (hJ : JL v fa gr ng wy) : STP xs m_F_fault m_M_fault [] (hp w ss cn pl pk pr pn ac st re fg we pc li sl wt pb sh sd rw sn fd i1 w1 sh1 sd1 rw1 sn1 fd1 i2 w2 sh2 sd2 rw2 sn2 fd2 wd (rf sn cn sm om ga mr ma ax w v sv ss fa gr ng wy im kp)) := by
  obtain ⟨c1, c2, c3, c4, c5, c6, c7, c8, c9, c10, c11, c12⟩ := id hC
  refine fin (sp_F_fault c2) ⟨c1, pd_fa c2, c3, c4, c5, c6, c7, c8, c9, c10, c11, c12⟩ (fun c => ?_) g_fa
  exact ⟨_, mj (sm := sm) (om := om) (ga := ga) (mr := mr) (ma := ma) (ax := ax) hJ, sp_M_fault zr_O zr_D c2 _ _ _⟩
theorem pd_pl {p : Int} (h : PdOK ss cn pl) (h0 : 0 ≤ p) : PdOK ss cn p := ⟨h.1, h.2.1, h.2.2.1, h0, h.2.2.2.2⟩
theorem st_judge {a : Int} (hC : CK w ss cn pl we pc wt pb sh sd rw sn fd i1 w1 sh1 sd1 rw1 sn1 fd1 i2 w2 sh2 sd2 rw2 sn2 fd2 wd sv im kp) (hJ : JL v fa gr ng wy) (ha : inR a) : STP xs m_F_judge m_M_judge [vI a] (hp w ss cn pl pk pr pn ac st re fg we pc li sl wt pb sh sd rw sn fd i1 w1 sh1 sd1 rw1 sn1 fd1 i2 w2 sh2 sd2 rw2 sn2 fd2 wd (rf sn cn sm om ga mr ma ax w v sv ss fa gr ng wy im kp)) := by
  obtain ⟨c1, c2, c3, c4, c5, c6, c7, c8, c9, c10, c11, c12⟩ := id hC
  obtain ⟨p1, p2, p3, p4, e1, e2, e3, e4, wE, q, hF⟩ := sp_F_judge (xs := xs) (pk := pk) (pr := pr) (pn := pn) (ac := ac) (st := st) (re := re) (fg := fg) (pc := pc) (li := li) (sl := sl) (wt := wt) (pb := pb) (sh := sh) (sd := sd) (rw := rw) (sn := sn) (fd := fd) (i1 := i1) (w1 := w1) (sh1 := sh1) (sd1 := sd1) (rw1 := rw1) (sn1 := sn1) (fd1 := fd1) (i2 := i2) (w2 := w2) (sh2 := sh2) (sd2 := sd2) (rw2 := rw2) (sn2 := sn2) (fd2 := fd2) (wd := wd) (R := rf sn cn sm om ga mr ma ax w v sv ss fa gr ng wy im kp) c2 c1 c3 ha
  exact fin hF ⟨c1, pd_pl c2 q.1, q.2, c4, c5, c6, c7, c8, c9, c10, c11, c12⟩ (fun c => sp_M_judge hJ c1 c2 ha pk pr pn) (g_jd c1)
theorem st_done (hC : CK w ss cn pl we pc wt pb sh sd rw sn fd i1 w1 sh1 sd1 rw1 sn1 fd1 i2 w2 sh2 sd2 rw2 sn2 fd2 wd sv im kp) (hJ : JL v fa gr ng wy) : STP xs m_F_done m_M_done [] (hp w ss cn pl pk pr pn ac st re fg we pc li sl wt pb sh sd rw sn fd i1 w1 sh1 sd1 rw1 sn1 fd1 i2 w2 sh2 sd2 rw2 sn2 fd2 wd (rf sn cn sm om ga mr ma ax w v sv ss fa gr ng wy im kp)) := by
  obtain ⟨c1, c2, c3, c4, c5, c6, c7, c8, c9, c10, c11, c12⟩ := id hC
  obtain ⟨p1, p2, p3, p4, e1, e2, e3, e4, wE, q, hF⟩ := sp_F_done (xs := xs) (pk := pk) (pr := pr) (pn := pn) (ac := ac) (st := st) (re := re) (fg := fg) (pc := pc) (li := li) (sl := sl) (wt := wt) (pb := pb) (sh := sh) (sd := sd) (rw := rw) (sn := sn) (fd := fd) (i1 := i1) (w1 := w1) (sh1 := sh1) (sd1 := sd1) (rw1 := rw1) (sn1 := sn1) (fd1 := fd1) (i2 := i2) (w2 := w2) (sh2 := sh2) (sd2 := sd2) (rw2 := rw2) (sn2 := sn2) (fd2 := fd2) (wd := wd) (R := rf sn cn sm om ga mr ma ax w v sv ss fa gr ng wy im kp) c2 c1 c3
  have hpd : PdOK ss (dnC w ss cn pk pr pn) p1 := by
    unfold dnC
    split
    · exact pd_0 c2 q.1
    · exact pd_pl c2 q.1
  exact fin hF ⟨wf_dnW c1, hpd, q.2, c4, c5, c6, c7, c8, c9, c10, c11, c12⟩ (fun c => sp_M_done hJ c1 c2 pk pr pn) (g_dn c1)
theorem st_behind {a y : Int} (hC : CK w ss cn pl we pc wt pb sh sd rw sn fd i1 w1 sh1 sd1 rw1 sn1 fd1 i2 w2 sh2 sd2 rw2 sn2 fd2 wd sv im kp) (hJ : JL v fa gr ng wy) (ha : inR a) (hy : inR y) : STP xs m_F_behind m_M_behind [vI a, vI y] (hp w ss cn pl pk pr pn ac st re fg we pc li sl wt pb sh sd rw sn fd i1 w1 sh1 sd1 rw1 sn1 fd1 i2 w2 sh2 sd2 rw2 sn2 fd2 wd (rf sn cn sm om ga mr ma ax w v sv ss fa gr ng wy im kp)) := by
  obtain ⟨c1, c2, c3, c4, c5, c6, c7, c8, c9, c10, c11, c12⟩ := id hC
  obtain ⟨p1, p2, p3, p4, e1, e2, e3, e4, wE, q, hF⟩ := sp_F_behind (xs := xs) (pk := pk) (pr := pr) (pn := pn) (ac := ac) (st := st) (re := re) (fg := fg) (pc := pc) (li := li) (sl := sl) (wt := wt) (pb := pb) (sh := sh) (sd := sd) (rw := rw) (sn := sn) (fd := fd) (i1 := i1) (w1 := w1) (sh1 := sh1) (sd1 := sd1) (rw1 := rw1) (sn1 := sn1) (fd1 := fd1) (i2 := i2) (w2 := w2) (sh2 := sh2) (sd2 := sd2) (rw2 := rw2) (sn2 := sn2) (fd2 := fd2) (wd := wd) (R := rf sn cn sm om ga mr ma ax w v sv ss fa gr ng wy im kp) c2 c1 c3 ha hy
  exact fin hF ⟨c1, pd_pl c2 q.1, q.2, c4, c5, c6, c7, c8, c9, c10, c11, c12⟩ (fun c => sp_M_behind hJ c1 c2 ha hy pk pr pn) (g_be c1)
theorem st_then {a : Int} (hC : CK w ss cn pl we pc wt pb sh sd rw sn fd i1 w1 sh1 sd1 rw1 sn1 fd1 i2 w2 sh2 sd2 rw2 sn2 fd2 wd sv im kp) (hJ : JL v fa gr ng wy) (ha : inR a) : STP xs m_F_then m_M_then [vI a] (hp w ss cn pl pk pr pn ac st re fg we pc li sl wt pb sh sd rw sn fd i1 w1 sh1 sd1 rw1 sn1 fd1 i2 w2 sh2 sd2 rw2 sn2 fd2 wd (rf sn cn sm om ga mr ma ax w v sv ss fa gr ng wy im kp)) := by
  obtain ⟨c1, c2, c3, c4, c5, c6, c7, c8, c9, c10, c11, c12⟩ := id hC
  obtain ⟨p1, p2, p3, p4, e1, e2, e3, e4, wE, q, hF⟩ := sp_F_then (xs := xs) (pk := pk) (pr := pr) (pn := pn) (ac := ac) (st := st) (re := re) (fg := fg) (pc := pc) (li := li) (sl := sl) (wt := wt) (pb := pb) (sh := sh) (sd := sd) (rw := rw) (sn := sn) (fd := fd) (i1 := i1) (w1 := w1) (sh1 := sh1) (sd1 := sd1) (rw1 := rw1) (sn1 := sn1) (fd1 := fd1) (i2 := i2) (w2 := w2) (sh2 := sh2) (sd2 := sd2) (rw2 := rw2) (sn2 := sn2) (fd2 := fd2) (wd := wd) (R := rf sn cn sm om ga mr ma ax w v sv ss fa gr ng wy im kp) c2 c1 c3 ha
  exact fin hF ⟨c1, pd_pl c2 q.1, q.2, c4, c5, c6, c7, c8, c9, c10, c11, c12⟩ (fun c => sp_M_then hJ c1 c2 ha pk pr pn) (g_th c1)
theorem st_ends {a : Int} (hC : CK w ss cn pl we pc wt pb sh sd rw sn fd i1 w1 sh1 sd1 rw1 sn1 fd1 i2 w2 sh2 sd2 rw2 sn2 fd2 wd sv im kp) (hJ : JL v fa gr ng wy) (ha : inR a) : STP xs m_F_ends m_M_ends [vI a] (hp w ss cn pl pk pr pn ac st re fg we pc li sl wt pb sh sd rw sn fd i1 w1 sh1 sd1 rw1 sn1 fd1 i2 w2 sh2 sd2 rw2 sn2 fd2 wd (rf sn cn sm om ga mr ma ax w v sv ss fa gr ng wy im kp)) := by
  obtain ⟨c1, c2, c3, c4, c5, c6, c7, c8, c9, c10, c11, c12⟩ := id hC
  exact fin (sp_F_ends c1 ha) hC (fun c => sp_M_ends hJ c1 ha) (g_en c1)
theorem st_goesIn (hC : CK w ss cn pl we pc wt pb sh sd rw sn fd i1 w1 sh1 sd1 rw1 sn1 fd1 i2 w2 sh2 sd2 rw2 sn2 fd2 wd sv im kp) (hJ : JL v fa gr ng wy) : STP xs m_F_goesIn m_M_goesIn [] (hp w ss cn pl pk pr pn ac st re fg we pc li sl wt pb sh sd rw sn fd i1 w1 sh1 sd1 rw1 sn1 fd1 i2 w2 sh2 sd2 rw2 sn2 fd2 wd (rf sn cn sm om ga mr ma ax w v sv ss fa gr ng wy im kp)) := by
  obtain ⟨c1, c2, c3, c4, c5, c6, c7, c8, c9, c10, c11, c12⟩ := id hC
  exact fin (sp_F_goesIn c1) hC (fun c => sp_M_goesIn hJ c1) g_gi
theorem st_path {a m y : Int} (hC : CK w ss cn pl we pc wt pb sh sd rw sn fd i1 w1 sh1 sd1 rw1 sn1 fd1 i2 w2 sh2 sd2 rw2 sn2 fd2 wd sv im kp) (hJ : JL v fa gr ng wy) (ha : inR a) (hm : inR m) (hy : inR y) : STP xs m_F_path m_M_path [vI a, vI m, vI y] (hp w ss cn pl pk pr pn ac st re fg we pc li sl wt pb sh sd rw sn fd i1 w1 sh1 sd1 rw1 sn1 fd1 i2 w2 sh2 sd2 rw2 sn2 fd2 wd (rf sn cn sm om ga mr ma ax w v sv ss fa gr ng wy im kp)) := by
  obtain ⟨c1, c2, c3, c4, c5, c6, c7, c8, c9, c10, c11, c12⟩ := id hC
  obtain ⟨pc', q, hF⟩ := sp_F_path (xs := xs) (ss := ss) (cn := cn) (pl := pl) (pk := pk) (pr := pr) (pn := pn) (ac := ac) (st := st) (re := re) (fg := fg) (we := we) (li := li) (sl := sl) (wt := wt) (pb := pb) (sh := sh) (sd := sd) (rw := rw) (sn := sn) (fd := fd) (i1 := i1) (w1 := w1) (sh1 := sh1) (sd1 := sd1) (rw1 := rw1) (sn1 := sn1) (fd1 := fd1) (i2 := i2) (w2 := w2) (sh2 := sh2) (sd2 := sd2) (rw2 := rw2) (sn2 := sn2) (fd2 := fd2) (wd := wd) (R := rf sn cn sm om ga mr ma ax w v sv ss fa gr ng wy im kp) c1 c4 ha hm hy
  exact fin hF ⟨c1, c2, c3, q, c5, c6, c7, c8, c9, c10, c11, c12⟩ (fun c => sp_M_path hJ c1 ha hm hy) (g_pa c1)
theorem st_stand {a : Int} (hC : CK w ss cn pl we pc wt pb sh sd rw sn fd i1 w1 sh1 sd1 rw1 sn1 fd1 i2 w2 sh2 sd2 rw2 sn2 fd2 wd sv im kp) (hJ : JL v fa gr ng wy) (ha : inR a) : STP xs m_F_stand m_M_stand [vI a] (hp w ss cn pl pk pr pn ac st re fg we pc li sl wt pb sh sd rw sn fd i1 w1 sh1 sd1 rw1 sn1 fd1 i2 w2 sh2 sd2 rw2 sn2 fd2 wd (rf sn cn sm om ga mr ma ax w v sv ss fa gr ng wy im kp)) := by
  obtain ⟨c1, c2, c3, c4, c5, c6, c7, c8, c9, c10, c11, c12⟩ := id hC
  obtain ⟨li', sl', wt', pb', q, hF⟩ := sp_F_stand (xs := xs) (ss := ss) (cn := cn) (pl := pl) (pk := pk) (pr := pr) (pn := pn) (ac := ac) (st := st) (re := re) (fg := fg) (we := we) (pc := pc) (li := li) (sl := sl) (sh := sh) (sd := sd) (rw := rw) (sn := sn) (fd := fd) (i1 := i1) (w1 := w1) (sh1 := sh1) (sd1 := sd1) (rw1 := rw1) (sn1 := sn1) (fd1 := fd1) (i2 := i2) (w2 := w2) (sh2 := sh2) (sd2 := sd2) (rw2 := rw2) (sn2 := sn2) (fd2 := fd2) (wd := wd) (R := rf sn cn sm om ga mr ma ax w v sv ss fa gr ng wy im kp) c1 c5.1 c5.2 ha
  exact fin hF ⟨c1, c2, c3, c4, q, c6, c7, c8, c9, c10, c11, c12⟩ (fun c => sp_M_stand hJ c1 c5.1 ha) g_sd
theorem st_mix {a b' c' d y p : Int} (hC : CK w ss cn pl we pc wt pb sh sd rw sn fd i1 w1 sh1 sd1 rw1 sn1 fd1 i2 w2 sh2 sd2 rw2 sn2 fd2 wd sv im kp) (hJ : JL v fa gr ng wy) (ha : inR a) (hb : inR b') (hc : inR c') (hd : inR d) (hy : inR y) (hpp : inR p) : STL xs m_F_mix m_M_mix [vI a, vI b', vI c', vI d, vI y, vI p] (hp w ss cn pl pk pr pn ac st re fg we pc li sl wt pb sh sd rw sn fd i1 w1 sh1 sd1 rw1 sn1 fd1 i2 w2 sh2 sd2 rw2 sn2 fd2 wd (rf sn cn sm om ga mr ma ax w v sv ss fa gr ng wy im kp)) := by
  obtain ⟨c1, c2, c3, c4, c5, c6, c7, c8, c9, c10, c11, c12⟩ := id hC
  exact finL (sp_F_mix ha hb hc hd hy hpp) hC (fun c => ⟨_, mj (sm := sm) (om := om) (ga := ga) (mr := mr) (ma := ma) (ax := ax) hJ, sp_M_mix ha hb hc hd hy hpp⟩) g_mi
theorem st_hands {a y : Int} (hC : CK w ss cn pl we pc wt pb sh sd rw sn fd i1 w1 sh1 sd1 rw1 sn1 fd1 i2 w2 sh2 sd2 rw2 sn2 fd2 wd sv im kp) (hJ : JL v fa gr ng wy) (ha : inR a) (hy : inR y) : STP xs m_F_hands m_M_hands [vI a, vI y] (hp w ss cn pl pk pr pn ac st re fg we pc li sl wt pb sh sd rw sn fd i1 w1 sh1 sd1 rw1 sn1 fd1 i2 w2 sh2 sd2 rw2 sn2 fd2 wd (rf sn cn sm om ga mr ma ax w v sv ss fa gr ng wy im kp)) := by
  obtain ⟨c1, c2, c3, c4, c5, c6, c7, c8, c9, c10, c11, c12⟩ := id hC
  refine fin (sp_F_hands ha hy) hC (fun c => ?_) g_ha
  obtain ⟨gr', ng', q, hS⟩ := sp_M_hands (xs := xs) (c := c) (mn := sn) (mc := cn) (sm := sm) (om := om) (ga := ga) (mr := mr) (ma := ma) (ax := ax) (b := w) (sv := sv) (dv := ss) (im := im) (kp := kp) hJ ha hy
  exact ⟨_, mj (sm := sm) (om := om) (ga := ga) (mr := mr) (ma := ma) (ax := ax) ⟨hJ.1, hJ.2.1, q.1, q.2, hJ.2.2.2.2⟩, hS⟩
theorem st_truly {a b' n k p : Int} (hC : CK w ss cn pl we pc wt pb sh sd rw sn fd i1 w1 sh1 sd1 rw1 sn1 fd1 i2 w2 sh2 sd2 rw2 sn2 fd2 wd sv im kp) (hJ : JL v fa gr ng wy) (ha : inR a) (hb : inR b') (hn : inR n) (hk : inR k) (hpp : inR p) : STL xs m_F_truly m_M_truly [vI a, vI b', vI n, vI k, vI p] (hp w ss cn pl pk pr pn ac st re fg we pc li sl wt pb sh sd rw sn fd i1 w1 sh1 sd1 rw1 sn1 fd1 i2 w2 sh2 sd2 rw2 sn2 fd2 wd (rf sn cn sm om ga mr ma ax w v sv ss fa gr ng wy im kp)) := by
  obtain ⟨c1, c2, c3, c4, c5, c6, c7, c8, c9, c10, c11, c12⟩ := id hC
  exact finL (sp_F_truly ha hb hn hk hpp) hC (fun c => ⟨_, mj (sm := sm) (om := om) (ga := ga) (mr := mr) (ma := ma) (ax := ax) hJ, sp_M_truly ha hb hn hk hpp⟩) g_tr
theorem st_race {a b' t p : Int} (hC : CK w ss cn pl we pc wt pb sh sd rw sn fd i1 w1 sh1 sd1 rw1 sn1 fd1 i2 w2 sh2 sd2 rw2 sn2 fd2 wd sv im kp) (hJ : JL v fa gr ng wy) (ha : inR a) (hb : inR b') (ht : inR t) (hpp : inR p) : STL xs m_F_race m_M_race [vI a, vI b', vI t, vI p] (hp w ss cn pl pk pr pn ac st re fg we pc li sl wt pb sh sd rw sn fd i1 w1 sh1 sd1 rw1 sn1 fd1 i2 w2 sh2 sd2 rw2 sn2 fd2 wd (rf sn cn sm om ga mr ma ax w v sv ss fa gr ng wy im kp)) := by
  obtain ⟨c1, c2, c3, c4, c5, c6, c7, c8, c9, c10, c11, c12⟩ := id hC
  refine finL (sp_F_race ha hb ht hpp) hC (fun c => ?_) g_ra
  obtain ⟨wy', q, hS⟩ := sp_M_race (xs := xs) (c := c) (mn := sn) (mc := cn) (sm := sm) (om := om) (ga := ga) (mr := mr) (ma := ma) (ax := ax) (b := w) (sv := sv) (dv := ss) (im := im) (kp := kp) hJ ha hb ht hpp
  exact ⟨_, mj (sm := sm) (om := om) (ga := ga) (mr := mr) (ma := ma) (ax := ax) ⟨hJ.1, hJ.2.1, hJ.2.2.1, hJ.2.2.2.1, q⟩, hS⟩
theorem st_seen {a y : Int} (hC : CK w ss cn pl we pc wt pb sh sd rw sn fd i1 w1 sh1 sd1 rw1 sn1 fd1 i2 w2 sh2 sd2 rw2 sn2 fd2 wd sv im kp) (hJ : JL v fa gr ng wy) (ha : inR a) (hy : y = 0 ∨ y = 1) : STP xs m_F_seen m_M_seen [vI a, vI y] (hp w ss cn pl pk pr pn ac st re fg we pc li sl wt pb sh sd rw sn fd i1 w1 sh1 sd1 rw1 sn1 fd1 i2 w2 sh2 sd2 rw2 sn2 fd2 wd (rf sn cn sm om ga mr ma ax w v sv ss fa gr ng wy im kp)) := by
  obtain ⟨c1, c2, c3, c4, c5, c6, c7, c8, c9, c10, c11, c12⟩ := id hC
  exact fin (sp_F_seen c6 ha hy) ⟨c1, c2, c3, c4, c5, se_ok c6 hy, c7, c8, c9, sgr_see c10 c6, c11, c12⟩ (fun c => sp_M_seen hJ c10.1 c6.2.2.2.1 ha hy) (g_se c6)
theorem st_forget (hC : CK w ss cn pl we pc wt pb sh sd rw sn fd i1 w1 sh1 sd1 rw1 sn1 fd1 i2 w2 sh2 sd2 rw2 sn2 fd2 wd sv im kp) (hJ : JL v fa gr ng wy) : STP xs m_F_forget m_M_forget [] (hp w ss cn pl pk pr pn ac st re fg we pc li sl wt pb sh sd rw sn fd i1 w1 sh1 sd1 rw1 sn1 fd1 i2 w2 sh2 sd2 rw2 sn2 fd2 wd (rf sn cn sm om ga mr ma ax w v sv ss fa gr ng wy im kp)) := by
  obtain ⟨c1, c2, c3, c4, c5, c6, c7, c8, c9, c10, c11, c12⟩ := id hC
  exact fin sp_F_forget ⟨c1, c2, c3, c4, c5, sg_n c6 rfl, c7, c8, c9, c10, c11, c12⟩ (fun c => sp_M_forget hJ) (g_sn c6)
theorem st_fits {a : Int} (hC : CK w ss cn pl we pc wt pb sh sd rw sn fd i1 w1 sh1 sd1 rw1 sn1 fd1 i2 w2 sh2 sd2 rw2 sn2 fd2 wd sv im kp) (hJ : JL v fa gr ng wy) (ha : inR a) : STP xs m_F_fits m_M_fits [vI a] (hp w ss cn pl pk pr pn ac st re fg we pc li sl wt pb sh sd rw sn fd i1 w1 sh1 sd1 rw1 sn1 fd1 i2 w2 sh2 sd2 rw2 sn2 fd2 wd (rf sn cn sm om ga mr ma ax w v sv ss fa gr ng wy im kp)) := by
  obtain ⟨c1, c2, c3, c4, c5, c6, c7, c8, c9, c10, c11, c12⟩ := id hC
  exact fin (sp_F_fits c6 ha) ⟨c1, c2, c3, c4, c5, fn_ok0 c6, c7, c8, c9, c10, c11, c12⟩ (fun c => sp_M_fits hJ c10 c6 ha) (g_fi c6)
theorem st_ask {a : Int} (hC : CK w ss cn pl we pc wt pb sh sd rw sn fd i1 w1 sh1 sd1 rw1 sn1 fd1 i2 w2 sh2 sd2 rw2 sn2 fd2 wd sv im kp) (hJ : JL v fa gr ng wy) (ha : inR a) : STP xs m_F_ask m_M_ask [vI a] (hp w ss cn pl pk pr pn ac st re fg we pc li sl wt pb sh sd rw sn fd i1 w1 sh1 sd1 rw1 sn1 fd1 i2 w2 sh2 sd2 rw2 sn2 fd2 wd (rf sn cn sm om ga mr ma ax w v sv ss fa gr ng wy im kp)) := by
  obtain ⟨c1, c2, c3, c4, c5, c6, c7, c8, c9, c10, c11, c12⟩ := id hC
  obtain ⟨rw', fd', q, hF⟩ := sp_F_ask (xs := xs) (w := w) (ss := ss) (cn := cn) (pl := pl) (pk := pk) (pr := pr) (pn := pn) (ac := ac) (st := st) (re := re) (fg := fg) (we := we) (pc := pc) (li := li) (sl := sl) (wt := wt) (pb := pb) (i1 := i1) (w1 := w1) (sh1 := sh1) (sd1 := sd1) (rw1 := rw1) (sn1 := sn1) (fd1 := fd1) (i2 := i2) (w2 := w2) (sh2 := sh2) (sd2 := sd2) (rw2 := rw2) (sn2 := sn2) (fd2 := fd2) (wd := wd) (R := rf sn cn sm om ga mr ma ax w v sv ss fa gr ng wy im kp) c6 ha
  exact fin hF ⟨c1, c2, c3, c4, c5, q, c7, c8, c9, c10, c11, c12⟩ (fun c => sp_M_ask hJ c10 c6 ha) (g_as c6)
theorem st_year {a m y : Int} (hC : CK w ss cn pl we pc wt pb sh sd rw sn fd i1 w1 sh1 sd1 rw1 sn1 fd1 i2 w2 sh2 sd2 rw2 sn2 fd2 wd sv im kp) (hJ : JL v fa gr ng wy) (ha : inR a) (hm : inR m) (hy : inR y) : STP xs m_F_year m_M_year [vI a, vI m, vI y] (hp w ss cn pl pk pr pn ac st re fg we pc li sl wt pb sh sd rw sn fd i1 w1 sh1 sd1 rw1 sn1 fd1 i2 w2 sh2 sd2 rw2 sn2 fd2 wd (rf sn cn sm om ga mr ma ax w v sv ss fa gr ng wy im kp)) := by
  obtain ⟨c1, c2, c3, c4, c5, c6, c7, c8, c9, c10, c11, c12⟩ := id hC
  obtain ⟨wd', q, hF⟩ := sp_F_year (xs := xs) (ss := ss) (cn := cn) (pl := pl) (pk := pk) (pr := pr) (pn := pn) (ac := ac) (st := st) (re := re) (fg := fg) (we := we) (pc := pc) (li := li) (sl := sl) (wt := wt) (pb := pb) (sh := sh) (sd := sd) (rw := rw) (sn := sn) (fd := fd) (i1 := i1) (w1 := w1) (sh1 := sh1) (sd1 := sd1) (rw1 := rw1) (sn1 := sn1) (fd1 := fd1) (i2 := i2) (w2 := w2) (sh2 := sh2) (sd2 := sd2) (rw2 := rw2) (sn2 := sn2) (fd2 := fd2) (R := rf sn cn sm om ga mr ma ax w v sv ss fa gr ng wy im kp) c1 c9 ha hm hy
  exact fin hF ⟨c1, c2, c3, c4, c5, c6, c7, c8, q, c10, c11, c12⟩ (fun c => sp_M_year hJ c1 ha hm hy) (g_ye c1)
theorem im_o {i n n2 : Int} {x1 y1 z1 u1 : List Int} {s1 f1 : Int} (hn : n = 0 ∨ n = 1) (hn2 : n2 = 1 - n) (hi : im.length = 80) (hk : kp.length = 2) (h : IM i x1 y1 z1 u1 s1 f1 n2 im kp) : IM i x1 y1 z1 u1 s1 f1 n2 (imV im w sv sn n) (kp.set n.toNat 1) := by
  obtain ⟨a1, a2, a3, a4, a5⟩ := h
  refine ⟨a1, ?_, a3, a4, fun z => ?_⟩
  · rw [az_set (by omega) (by rw [hk]; omega) (by omega), if_neg (by omega)]
    exact a2
  · obtain ⟨sv1, b1, b2⟩ := a5 z
    exact ⟨sv1, b1, imV_o hi hn hn2 b2⟩
theorem im_s {n : Int} {rw1 : List Int} {fd1 : Int} (hn : n = 0 ∨ n = 1) (hi : im.length = 80) (hk : kp.length = 2) (hw : WF w) (hO : SgOK sh sd rw sn fd) (hO1 : SgOK sh1 sd1 rw1 sn1 fd1) (hR : SgR sv sh sd) : IM 1 w sh sd rw1 sn fd1 n (imV im w sv sn n) (kp.set n.toNat 1) := by
  refine ⟨Or.inr rfl, ?_, hw, ⟨hO.1, hO.2.1, hO1.2.2.1, hO.2.2.2.1, hO.2.2.2.2.1, hO.2.2.2.2.2.1, hO1.2.2.2.2.2.2⟩, fun _ => ⟨sv, hR, imV_R hi hn⟩⟩
  rw [az_set (by omega) (by rw [hk]; omega) (by omega), if_pos rfl]
theorem st_image {a : Int} (hC : CK w ss cn pl we pc wt pb sh sd rw sn fd i1 w1 sh1 sd1 rw1 sn1 fd1 i2 w2 sh2 sd2 rw2 sn2 fd2 wd sv im kp) (hJ : JL v fa gr ng wy) (ha : inR a) : STP xs m_F_image m_M_image [vI a] (hp w ss cn pl pk pr pn ac st re fg we pc li sl wt pb sh sd rw sn fd i1 w1 sh1 sd1 rw1 sn1 fd1 i2 w2 sh2 sd2 rw2 sn2 fd2 wd (rf sn cn sm om ga mr ma ax w v sv ss fa gr ng wy im kp)) := by
  obtain ⟨c1, c2, c3, c4, c5, c6, c7, c8, c9, c10, c11, c12⟩ := id hC
  by_cases z0 : a = 0
  · subst z0
    exact fin (sp_F_image_0 c1 c7.2.2.1.1 c6 c7.2.2.2.1) ⟨c1, c2, c3, c4, c5, c6, im_s (Or.inl rfl) c11 c12 c1 c6 c7.2.2.2.1 c10, im_o (Or.inl rfl) rfl c11 c12 c8, c9, c10, by rw [imV_len]; exact c11, by rw [List.length_set]; exact c12⟩ (fun c => sp_M_image hJ c1 c10.1 c11 c12 (Or.inl rfl)) (by constructor <;> omega)
  · by_cases z1 : a = 1
    · subst z1
      exact fin (sp_F_image_1 c1 c8.2.2.1.1 c6 c8.2.2.2.1) ⟨c1, c2, c3, c4, c5, c6, im_o (Or.inr rfl) rfl c11 c12 c7, im_s (Or.inr rfl) c11 c12 c1 c6 c8.2.2.2.1 c10, c9, c10, by rw [imV_len]; exact c11, by rw [List.length_set]; exact c12⟩ (fun c => sp_M_image hJ c1 c10.1 c11 c12 (Or.inr rfl)) (by constructor <;> omega)
    · exact fin (sp_F_image_n ha (by omega)) hC (fun c => sp_M_image_n hJ ha (by omega)) (by constructor <;> omega)
theorem sg_re {x1 y1 u1 : List Int} {s1 f1 : Int} (hO : SgOK sh sd rw sn fd) (hO1 : SgOK x1 y1 u1 s1 f1) : SgOK x1 y1 rw s1 fd := ⟨hO1.1, hO1.2.1, hO.2.2.1, hO1.2.2.2.1, hO1.2.2.2.2.1, hO1.2.2.2.2.2.1, hO.2.2.2.2.2.2⟩
theorem st_restore {a : Int} (hC : CK w ss cn pl we pc wt pb sh sd rw sn fd i1 w1 sh1 sd1 rw1 sn1 fd1 i2 w2 sh2 sd2 rw2 sn2 fd2 wd sv im kp) (hJ : JL v fa gr ng wy) (ha : inR a) : STP xs m_F_restore m_M_restore [vI a] (hp w ss cn pl pk pr pn ac st re fg we pc li sl wt pb sh sd rw sn fd i1 w1 sh1 sd1 rw1 sn1 fd1 i2 w2 sh2 sd2 rw2 sn2 fd2 wd (rf sn cn sm om ga mr ma ax w v sv ss fa gr ng wy im kp)) := by
  obtain ⟨c1, c2, c3, c4, c5, c6, c7, c8, c9, c10, c11, c12⟩ := id hC
  by_cases z0 : a = 0
  · subst z0
    rcases c7.1 with y | y
    · exact fin (sp_F_restore_0f y) hC (fun c => sp_M_restore_f hJ c12 (Or.inl rfl) (by rw [c7.2.1]; exact y)) (by constructor <;> omega)
    · obtain ⟨sv1, b1, b2⟩ := c7.2.2.2.2 y
      exact fin (sp_F_restore_0t y c1 c7.2.2.1.1 c6 c7.2.2.2.1) ⟨c7.2.2.1, c2, c3, c4, c5, sg_re c6 c7.2.2.2.1, c7, c8, c9, b1, c11, c12⟩ (fun c => sp_M_restore hJ c1 c10.1 c11 c12 (Or.inl rfl) (by rw [c7.2.1]; exact y) c7.2.2.1.1 b1.1 b2) (by constructor <;> omega)
  · by_cases z1 : a = 1
    · subst z1
      rcases c8.1 with y | y
      · exact fin (sp_F_restore_1f y) hC (fun c => sp_M_restore_f hJ c12 (Or.inr rfl) (by rw [c8.2.1]; exact y)) (by constructor <;> omega)
      · obtain ⟨sv1, b1, b2⟩ := c8.2.2.2.2 y
        exact fin (sp_F_restore_1t y c1 c8.2.2.1.1 c6 c8.2.2.2.1) ⟨c8.2.2.1, c2, c3, c4, c5, sg_re c6 c8.2.2.2.1, c7, c8, c9, b1, c11, c12⟩ (fun c => sp_M_restore hJ c1 c10.1 c11 c12 (Or.inr rfl) (by rw [c8.2.1]; exact y) c8.2.2.1.1 b1.1 b2) (by constructor <;> omega)
    · exact fin (sp_F_restore_n ha (by omega)) hC (fun c => sp_M_restore_n hJ ha (by omega)) (by constructor <;> omega)
theorem st_told {a : Int} (hC : CK w ss cn pl we pc wt pb sh sd rw sn fd i1 w1 sh1 sd1 rw1 sn1 fd1 i2 w2 sh2 sd2 rw2 sn2 fd2 wd sv im kp) (hJ : JL v fa gr ng wy) (ha : inR a) : STP xs m_F_told m_M_told [vI a] (hp w ss cn pl pk pr pn ac st re fg we pc li sl wt pb sh sd rw sn fd i1 w1 sh1 sd1 rw1 sn1 fd1 i2 w2 sh2 sd2 rw2 sn2 fd2 wd (rf sn cn sm om ga mr ma ax w v sv ss fa gr ng wy im kp)) := by
  obtain ⟨c1, c2, c3, c4, c5, c6, c7, c8, c9, c10, c11, c12⟩ := id hC
  exact fin (sp_F_told c2 c1 ha) hC (fun c => sp_M_told hJ c1 ha) (g_to c2 c1 c6)
end C86
