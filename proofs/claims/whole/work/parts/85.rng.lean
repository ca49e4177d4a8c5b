-- the answers are small
section C85
variable {w ss sh sd rw pb : List Int} {cn pl sn fd : Int}
theorem g_pos {v : List Int} {r m : Int} (hw : WF v) (h0 : 0 ≤ r) (h1 : r < 8) (m0 : 0 ≤ m) (m1 : m < men r) : -100 ≤ pos v r m ∧ pos v r m ≤ 100 := by
  have := pos_bd hw h0 h1 m0 m1
  omega
theorem g_sl {r v : Int} (hw : WF w) : inR (slA w r v) := by
  unfold slA
  split
  · next z =>
    have a := hw.2.1 r z.1 z.2
    have b := wid_bd z.1 z.2
    split <;> constructor <;> omega
  · constructor <;> omega
theorem g_hcn {w' : List Int} {s : Int} (hw : WF w') : 0 ≤ hcn w' s (-1) ∧ hcn w' s (-1) ≤ 8 := by
  have := hcA_bd hw s (-1) 8 0 (by omega) (by omega)
  unfold hcn
  omega
theorem g_ho {r v : Int} (hw : WF w) (hv : v = 0 ∨ v = 1) : inR (hoA w r v) := by
  have h := wf_hoW (w := w) (r := r) hw hv
  unfold hoA
  unfold hoW at h
  split
  · next z =>
    split
    · constructor <;> omega
    · next y =>
      rw [if_pos ⟨z, y⟩] at h
      have := g_hcn (s := sid r) h
      constructor <;> omega
  · constructor <;> omega
theorem g_ba {r m : Int} : inR (baA r m) := by unfold baA; split <;> constructor <;> omega
theorem g_go {s v : Int} (hw : WF w) : inR (goA w s v) := by
  have h1 := hw.2.2.2.2.1
  have h2 := hw.2.2.2.2.2.1
  unfold goA
  split
  · next z =>
    split
    · rcases z with rfl | rfl
      · show inR (at_ w 18); constructor <;> omega
      · show inR (at_ w 19); constructor <;> omega
    · constructor <;> omega
  · constructor <;> omega
theorem g_sy {s : Int} (hp : PdOK ss cn pl) : inR (syA cn s) := by
  have := hp.2.1
  have := hp.2.2.1
  unfold syA
  split
  · split <;> constructor <;> omega
  · constructor <;> omega
theorem g_cn (hp : PdOK ss cn pl) : inR cn := by
  have := hp.2.1
  have := hp.2.2.1
  constructor <;> omega
theorem g_fa {k r n : Int} : inR (at_ (fa0 ss cn k r n) 0) := by
  have := fa0_bd (ss := ss) (cn := cn) (k := k) (r := r) (n := n)
  constructor <;> omega
theorem evA_rg : ∀ (f : Nat) (pl k r n : Int) (w : List Int) (ac fg : Int), -6 ≤ fg → fg ≤ ac → 0 ≤ ac → (-6 ≤ at_ (evA ss cn f pl k r n w ac fg).2.1 2 ∧ at_ (evA ss cn f pl k r n w ac fg).2.1 2 ≤ 7) ∧ (-6 ≤ at_ (evA ss cn f pl k r n w ac fg).2.1 3 ∧ at_ (evA ss cn f pl k r n w ac fg).2.1 3 ≤ ac + f)
  | 0, pl, k, r, n, w, ac, fg, h0, h1, h2 => by
    unfold evA
    exact ⟨⟨by show (-6 : Int) ≤ -6; omega, by show (-6 : Int) ≤ 7; omega⟩, h0, by show fg ≤ _; omega⟩
  | f + 1, pl, k, r, n, w, ac, fg, h0, h1, h2 => by
    unfold evA
    split
    · exact ⟨⟨by show (-6 : Int) ≤ -6; omega, by show (-6 : Int) ≤ 7; omega⟩, h0, by show fg ≤ _; omega⟩
    · split
      · have := why_bd (w := w) (k := at_ (rdq ss cn pl k) 2) (r := at_ (rdq ss cn pl k) 3) (n := at_ (rdq ss cn pl k) 4)
        exact ⟨⟨by show -6 ≤ why _ _ _ _; omega, by show why _ _ _ _ ≤ 7; omega⟩, h0, by show fg ≤ _; omega⟩
      · have e := evA_rg f (at_ (rdq ss cn pl k) 1) (at_ (rdq ss cn pl k) 2) (at_ (rdq ss cn pl k) 3) (at_ (rdq ss cn pl k) 4) (prf w (at_ (rdq ss cn pl k) 2) (at_ (rdq ss cn pl k) 3) (at_ (rdq ss cn pl k) 4)) (ac + 1) (if fg = -6 ∧ at_ w 18 + at_ w 19 < at_ (prf w (at_ (rdq ss cn pl k) 2) (at_ (rdq ss cn pl k) 3) (at_ (rdq ss cn pl k) 4)) 18 + at_ (prf w (at_ (rdq ss cn pl k) 2) (at_ (rdq ss cn pl k) 3) (at_ (rdq ss cn pl k) 4)) 19 then ac else fg) (by split <;> omega) (by split <;> omega) (by omega)
        exact ⟨e.1, e.2.1, by have := e.2.2; omega⟩
theorem ev_rg {k r n : Int} : (-6 ≤ at_ (ev0 w ss cn k r n).2.1 2 ∧ at_ (ev0 w ss cn k r n).2.1 2 ≤ 7) ∧ (-6 ≤ at_ (ev0 w ss cn k r n).2.1 3 ∧ at_ (ev0 w ss cn k r n).2.1 3 ≤ 0 + (60 : Nat)) := evA_rg 60 0 _ _ _ w 0 (-6) (by omega) (by omega) (by omega)
theorem g_jd {k r n what : Int} (hw : WF w) : inR (jdA w ss cn k r n what) := by
  have e := ev_rg (w := w) (ss := ss) (cn := cn) (k := k) (r := r) (n := n)
  unfold jdA
  split
  · split
    · next z =>
      have := ev_st (w := w) (ss := ss) (cn := cn) (pk := k) (pr := r) (pn := n) hw z
      split <;> constructor <;> omega
    · constructor <;> omega
  · constructor <;> omega
theorem g_dn {k r n : Int} (hw : WF w) : inR (dnA w ss cn k r n) := by
  unfold dnA
  split
  · next z =>
    have := ev_ok (w := w) (ss := ss) (cn := cn) (pk := k) (pr := r) (pn := n) hw (okB_iff.mp z).1
    constructor <;> omega
  · constructor <;> omega
theorem g_be {k r n q what : Int} (hw : WF w) : inR (beA w ss cn k r n q what) := by
  unfold beA
  split
  · next z0 =>
    split
    · next z1 =>
      split
      · next z =>
        have hX := (ev_ok (w := w) (ss := ss) (cn := cn) (pk := k) (pr := r) (pn := n) hw (okB_iff.mp z).1).1
        have a := hX.2.1 q z0.1 z0.2
        have b := wid_bd z0.1 z0.2
        have d := hX.2.2.1 q z0.1 z0.2
        rcases z1 with z1 | z1
        · rw [z1, show 8 * (0 : Int) + q = q by omega]; constructor <;> omega
        · rw [z1, show 8 * (1 : Int) + q = 8 + q by omega]; constructor <;> omega
      · constructor <;> omega
    · constructor <;> omega
  · constructor <;> omega
theorem g_bl {X : List Int} (hX : WF X) : (-6 ≤ at_ X 16 ∧ at_ X 16 ≤ 8) ∧ (-6 ≤ at_ X 17 ∧ at_ X 17 ≤ 8) ∧ (at_ X 16 ≠ -6 → -100 ≤ pos X (at_ X 16) (at_ X 17) ∧ pos X (at_ X 16) (at_ X 17) ≤ 100) := by
  rcases hX.2.2.2.1 with z | z
  · exact ⟨by omega, by omega, fun y => absurd z.1 y⟩
  · have := men_bd z.1 z.2.1
    have := pos_bd hX z.1 z.2.1 z.2.2.1 z.2.2.2
    exact ⟨by omega, by omega, fun _ => by omega⟩
theorem g_th {k r n what : Int} (hw : WF w) : inR (thA w ss cn k r n what) := by
  have e := ev_rg (w := w) (ss := ss) (cn := cn) (k := k) (r := r) (n := n)
  unfold thA
  split
  · split
    · next z =>
      have hX := (ev_ok (w := w) (ss := ss) (cn := cn) (pk := k) (pr := r) (pn := n) hw (okB_iff.mp z).1).1
      have b := g_bl hX
      have h1 := hX.2.2.2.2.1
      have h2 := hX.2.2.2.2.2.1
      have h3 := hX.2.2.2.2.2.2.1
      unfold thV
      split
      · constructor <;> omega
      split
      · constructor <;> omega
      split
      · split
        · constructor <;> omega
        · next y => have := b.2.2 y; constructor <;> omega
      split
      · constructor <;> omega
      split
      · constructor <;> omega
      split
      · constructor <;> omega
      · constructor <;> omega
    · constructor <;> omega
  · constructor <;> omega
theorem g_en {d : Int} (hw : WF w) : inR (enA w d) := by
  unfold enA
  split
  · split
    · constructor <;> omega
    · next z => have := shot_nn (d := d) hw z; constructor <;> omega
  · constructor <;> omega
theorem g_gi : inR (giA w) := by
  have := bsN19 (inB w)
  unfold giA
  split <;> constructor <;> omega
theorem ffA_rg {c9 : List Int} {a rest : Int} (hw : WF w) : ∀ (k : Nat) (way l : Int), 0 ≤ way → way + k ≤ 10 → -6 ≤ l → l < 80 → -6 ≤ ffA w c9 a rest k way l ∧ ffA w c9 a rest k way l < 80
  | 0, _, l, _, _, h0, h1 => ⟨h0, h1⟩
  | k + 1, way, l, w0, w1, h0, h1 => by
    have hb := rcv_bd hw (who := a) w0 (by omega)
    unfold ffA
    exact ffA_rg hw k (way + 1) _ (by omega) (by omega) (by split <;> omega) (by split <;> omega)
theorem g_pa {r m what : Int} (hw : WF w) : inR (paA w r m what) := by
  have hf := frm_bd (cnt_CB (w := w) (tg := 10 * r + m)) (10 * at_ w 16 + at_ w 17)
  have hg := ffA_rg (c9 := cnt w (10 * r + m)) (a := 10 * at_ w 16 + at_ w 17) (rest := frm (cnt w (10 * r + m)) (10 * at_ w 16 + at_ w 17) - 1) hw 10 0 (-6) (by omega) (by omega) (by omega) (by omega)
  unfold paA
  split
  · split
    · split
      · constructor <;> omega
      split
      · constructor <;> omega
      split
      · constructor <;> omega
      split
      · constructor <;> omega
      · constructor <;> omega
    · constructor <;> omega
  · constructor <;> omega
theorem tkA_rg {pk : Nat} {v : Int} (v0 : 0 ≤ v) (v1 : v ≤ 100) : ∀ (k : Nat) (j li sl : Int), 0 ≤ j → j + k ≤ 100 → 0 ≤ sl → sl ≤ 20000 → 0 ≤ (tkA pb pk v k j li sl).2 ∧ (tkA pb pk v k j li sl).2 ≤ 20000
  | 0, _, li, sl, _, _, h0, h1 => ⟨h0, h1⟩
  | k + 1, j, li, sl, j0, j1, h0, h1 => by
    unfold tkA
    split
    · exact tkA_rg v0 v1 k (j + 1) _ _ (by omega) (by omega) (by omega) (by omega)
    · exact tkA_rg v0 v1 k (j + 1) _ _ (by omega) (by omega) h0 h1
theorem kpA_rg {wb : List Int} {s : Int} : ∀ (k : Nat) (v li sl : Int), 0 ≤ v → v + k ≤ 100 → 0 ≤ sl → sl ≤ 20000 → 0 ≤ (kpA wb pb s k v li sl).2 ∧ (kpA wb pb s k v li sl).2 ≤ 20000
  | 0, _, li, sl, _, _, h0, h1 => ⟨h0, h1⟩
  | k + 1, v, li, sl, v0, v1, h0, h1 => by
    have q := tkA_rg (pb := pb) (pk := bsN (pst (setw wb (kp s) v) (kp s)) 19) v0 (by omega : v ≤ 100) 25 0 li sl (by omega) (by omega) h0 h1
    unfold kpA
    exact kpA_rg k (v + 1) _ _ (by omega) (by omega) q.1 q.2
theorem g_sd {what sl : Int} : inR (sdA w what pb sl) := by
  unfold sdA
  have e41 : kpA (setw w (bk (1 - sid (at_ w 16))) 24) (bkA w (1 - sid (at_ w 16)) 25 0 pb) (1 - sid (at_ w 16)) 41 0 20 sl = kpA (setw w (bk (1 - sid (at_ w 16))) 24) (bkA w (1 - sid (at_ w 16)) 25 0 pb) (1 - sid (at_ w 16)) 41 0 20 0 := kp_first (by omega) (by omega) 40
  rw [e41]
  have a := kpA_le (wb := setw w (bk (1 - sid (at_ w 16))) 24) (pb := bkA w (1 - sid (at_ w 16)) 25 0 pb) (s := 1 - sid (at_ w 16)) 41 0 20 0 (by omega) (by omega)
  have b := kpA_rg (wb := setw w (bk (1 - sid (at_ w 16))) 24) (pb := bkA w (1 - sid (at_ w 16)) 25 0 pb) (s := 1 - sid (at_ w 16)) 41 0 20 0 (by omega) (by omega) (by omega) (by omega)
  split
  · split
    · constructor <;> omega
    · split <;> constructor <;> omega
  · constructor <;> omega
theorem g_ha {row n : Int} : inR (hanR row n) := by
  unfold hanR
  split
  · next z =>
    obtain ⟨⟨zn0, zn1⟩, zr, hw⟩ := z
    have hdg : ∀ i : Int, 0 ≤ i → i < n → nd row n i < 4 := fun i i0 i1 => iw_dig n.toNat row hw _ (by omega)
    have e : fwA row n n.toNat 0 0 0 = hmA row n n.toNat 0 4 0 0 := fw_hm zr hdg n.toNat 0 0 4 0 0 (by omega) (by omega) (by omega) (by omega) (by decide) (Or.inl ⟨rfl, rfl, rfl⟩)
    have := hm_bd (row := row) (n := n) n.toNat 0 4 0 0
    rw [e]
    constructor <;> omega
  · constructor <;> omega
theorem g_se {s : Int} (hO : SgOK sh sd rw sn fd) : inR (seA sn s) := by
  have := hO.2.2.2.1
  unfold seA
  split
  · split <;> constructor <;> omega
  · constructor <;> omega
theorem g_sn (hO : SgOK sh sd rw sn fd) : inR sn := by
  have := hO.2.2.2.1
  constructor <;> omega
theorem g_fi {i : Int} (hO : SgOK sh sd rw sn fd) : inR (fiA sh sd sn rw i) := by
  have h2 := fn_ok0 hO
  have h3 := h2.2.2.2.2.2.2
  unfold fiA
  split
  · constructor <;> omega
  · split
    · next z => have := h3.2 i z.1 (by omega); constructor <;> omega
    · constructor <;> omega
theorem g_as {what : Int} (hO : SgOK sh sd rw sn fd) : inR (asA sh sd sn rw what) := by
  obtain ⟨e1, e2, e3⟩ := fl64 hO
  unfold asA
  split
  · split
    · constructor <;> omega
    · have hb := bsA_bd (rw := (fnA sh sd sn 64 16 rw 0).1) (fd := (fnA sh sd sn 64 16 rw 0).2) 60 1 0 (by omega) (by omega) (by omega) (by omega)
      split
      · constructor <;> omega
      · have hmem : ∀ x, x ∈ flB sh sd sn 64 16 → 0 ≤ x ∧ x < 80 := fun x h => by have := flB_mem 64 16 x h; omega
        rw [ml_ws hO]
        have hs := smA_bd hb.1 (flB sh sd sn 64 16) hmem
        unfold wsA
        constructor <;> omega
  · constructor <;> omega
theorem g_ye {seed m what : Int} (hw : WF w) : inR (yeA w seed m what) := by
  unfold yeA
  split
  · have hX := wf_yrA m.toNat seed w hw
    have b := g_bl hX
    have h1 := hX.2.2.2.2.1
    have h2 := hX.2.2.2.2.2.1
    have h3 := hX.2.2.2.2.2.2.1
    unfold yrV
    split
    · constructor <;> omega
    · split <;> constructor <;> omega
  · constructor <;> omega
theorem g_to {what : Int} (hp : PdOK ss cn pl) (hw : WF w) (hO : SgOK sh sd rw sn fd) : inR (toA w cn sn what) := by
  have c1 := g_cn hp
  have c2 := g_sn hO
  have b := g_bl hw
  have hb := hb_bd hw
  have h1 := hw.2.2.2.2.1
  have h2 := hw.2.2.2.2.2.1
  have h3 := hw.2.2.2.2.2.2.1
  unfold toA
  split
  · exact c1
  split
  · constructor <;> omega
  split
  · constructor <;> omega
  split
  · constructor <;> omega
  split
  · constructor <;> omega
  split
  · exact c2
  unfold tnA
  split
  · next z =>
    have : what = 10 ∨ what = 11 := by omega
    rcases this with rfl | rfl
    · show inR (at_ w 18); constructor <;> omega
    · show inR (at_ w 19); constructor <;> omega
  split
  · next z =>
    have := hw.2.1 (what - 20) (by omega) (by omega)
    have := wid_bd (r := what - 20) (by omega) (by omega)
    constructor <;> omega
  split
  · split
    · next y => have := g_pos hw (r := (what - 100) / 10) (m := (what - 100) % 10) (by omega) (by omega) (by omega) y; constructor <;> omega
    · constructor <;> omega
  · constructor <;> omega
theorem g_prt {u l p : Int} (u0 : 0 ≤ u) (u1 : u ≤ 9000000000000000000) (l0 : 0 ≤ l) (l1 : l ≤ 9000000000000000000) : inL (prt u l p) := by
  unfold prt
  split
  · constructor <;> omega
  · next z =>
    by_cases y : 0 < gcA 200 l u
    · have q : 0 ≤ (if p = 0 then u else l) ∧ (if p = 0 then u else l) ≤ 9000000000000000000 := by split <;> omega
      have a := Int.ediv_nonneg q.1 (Int.le_of_lt y)
      have b := Int.ediv_le_self (gcA 200 l u) q.1
      constructor <;> omega
    · have e := gcA_200 (a := l) (b := u) l0 u0 u1
      omega
theorem mul_10 {x y : Int} (x0 : 0 ≤ x) (x1 : x ≤ 10) (y0 : 0 ≤ y) (y1 : y ≤ 10) : 0 ≤ x * y ∧ x * y ≤ 100 := by
  have := mul_bd x0 x1 (y := y) (n := 10) (by omega) y1
  have := Int.mul_nonneg x0 y0
  omega
theorem g_mi {a b c d what p : Int} : inL (mixR a b c d what p) := by
  unfold mixR
  split
  · next z =>
    obtain ⟨za, zb, zc, zd, zw, zp⟩ := z
    by_cases y : max (min a b) (min c d) = min (max a c) (max b d)
    · rw [mix_sad za zb zc zd y]
      split
      · exact g_prt (by omega) (by omega) (by omega) (by omega)
      · exact g_prt (by split <;> omega) (by split <;> omega) (by omega) (by omega)
    · have m1 := mul_10 za.1 za.2 zd.1 zd.2
      have m2 := mul_10 zb.1 zb.2 zc.1 zc.2
      have b1 := zabs_bd (x := a * d - b * c) (n := 1000) (by omega) (by omega)
      have b2 := zabs_bd (x := 10 * (a - b - c + d)) (n := 1000) (by omega) (by omega)
      have b3 := zabs_bd (x := a - b - c + d) (n := 1000) (by omega) (by omega)
      have b4 := zabs_bd (x := d - c) (n := 1000) (by omega) (by omega)
      rw [(mix_non za zb zc zd y).2]
      split
      · exact g_prt b1.1 (by omega) b2.1 (by omega)
      · exact g_prt b4.1 (by omega) b3.1 (by omega)
  · constructor <;> omega
theorem g_ra {a b t p : Int} : inL (racR a b t p) := by
  unfold racR
  split
  · next z =>
    obtain ⟨za, zo, zt, zp⟩ := z
    split
    · constructor <;> omega
    · next y =>
      have hw := wr_k (10 - a).toNat (by omega) (10 - b).toNat (by omega) t.toNat (by omega) (by omega)
      have hp10 := p10b (10 - a + (10 - b) - 1).toNat (by omega)
      rw [show ((t.toNat : Nat) : Int) = t by omega, show (((10 - a).toNat : Nat) : Int) = 10 - a by omega, show (((10 - b).toNat : Nat) : Int) = 10 - b by omega] at hw
      exact g_prt hw.1 hw.2 hp10.1 (by omega)
  · constructor <;> omega
theorem fst_bd2 {a n k : Int} (a0 : 0 ≤ a ∧ a ≤ 10) (k0 : 0 ≤ k) (k1 : k ≤ n) (n1 : n ≤ 16) : 0 ≤ fst a n k ∧ fst a n k ≤ 1000000000000000000 := by
  have := fst_bd a0 k0 k1 n1
  omega
theorem g_tr {a b n k p : Int} : inL (trR a b n k p) := by
  unfold trR
  split
  · next z =>
    obtain ⟨za, zb, zn, zk, zp⟩ := z
    have h1 := fst_bd2 za zk.1 zk.2 zn.2
    have h2 := fst_bd2 zb zk.1 zk.2 zn.2
    unfold tru
    split
    · exact g_prt (by omega) (by omega) (by omega) (by omega)
    · exact g_prt h1.1 (by omega) (by omega) (by omega)
  · constructor <;> omega
end C85
