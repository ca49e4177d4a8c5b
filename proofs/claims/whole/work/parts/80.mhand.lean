-- the reference: hands
section C80
variable {xs : List Int} {c : Nat → HC} {mn mc sm om ga mr ma ax : Int} {b v sv dv fa gr ng wy im kp : List Int}
def EH (xs : List Int) (pc : Nat) (ls : List MV) (c : Nat → HC) (mn mc sm om ga mr ma ax : Int) (b v sv dv fa wy im kp gr ng : List Int) (r : Option MV) : Prop := ∃ gr' ng' : List Int, (gr'.length = 16 ∧ ng'.length = 16) ∧ Rn xs m_M_hands pc ls [] (z40 c (rf mn mc sm om ga mr ma ax b v sv dv fa gr ng wy im kp)) r (z40 c (rf mn mc sm om ga mr ma ax b v sv dv fa gr' ng' wy im kp))
def BD (l : List Int) : Prop := ∀ j : Int, 0 ≤ j → j < 16 → 0 ≤ at_ l j ∧ at_ l j ≤ 1000000
theorem then_k : ∀ k : Nat, k < 16 → ∀ r : Nat, r < 4 → bOr (k : Int) (bShl 1 (r : Int)) = ((k ||| 2 ^ r : Nat) : Int) := by decide +kernel
theorem sub_k : ∀ k : Nat, k < 16 → ∀ s : Nat, s < 16 → (bAnd (k : Int) (bXor (s : Int) (-1)) = 0 ↔ k &&& s = k) := by decide +kernel
theorem sub_b : ∀ k : Nat, k < 16 → ∀ s : Nat, s < 16 → 0 ≤ bAnd (k : Int) (bXor (s : Int) (-1)) ∧ bAnd (k : Int) (bXor (s : Int) (-1)) < 16 := by decide +kernel
theorem pc_k : ∀ k : Nat, k < 16 → bsm k = pc4 k ∧ pc4 k ≤ 4 := by decide +kernel
theorem adm_iff {s k r : Nat} : adm s k r = true ↔ (k &&& s = k ∧ pc4 (k ||| 2 ^ r) ≤ 2) := by
  unfold adm
  rw [Bool.and_eq_true, nbeq, Nat.ble_eq]
theorem bt_01 (s r : Nat) : bt s r = 0 ∨ bt s r = 1 := by unfold bt; omega
theorem lp_M_keep {row n i : Int} {x3 x4 x5 x9 : MV} {rt : Option MV} {r s : Nat} (hr : r < 4) (hs : s < 16) (hg : gr.length = 16) (hbg : BD gr) : ∀ (f k : Nat) (l : List Int) (x12 : MV), k + f = 16 → NG gr r l s k → BD l → (∀ l' (k' : Int) x, NG gr r l' s 16 → BD l' → EH xs 291 [vR 40, vI row, vI n, x3, x4, x5, vI i, vI (r : Nat), vI (s : Nat), x9, vI (at_ gr (s : Nat) + (mis s r : Nat)), vI k', x] c mn mc sm om ga mr ma ax b v sv dv fa wy im kp gr l' rt) → EH xs 229 [vR 40, vI row, vI n, x3, x4, x5, vI i, vI (r : Nat), vI (s : Nat), x9, vI (at_ gr (s : Nat) + (mis s r : Nat)), vI (k : Nat), x12] c mn mc sm om ga mr ma ax b v sv dv fa wy im kp gr l rt := by
  have hgl : ((gr.length : Nat) : Int) = 16 := by rw [hg]; rfl
  intro f
  induction f with
  | zero =>
    intro k l x12 h1 hN hB e
    have : k = 16 := by omega
    subst this
    obtain ⟨gr', ng', hq, h2⟩ := e l ((16 : Nat) : Int) x12 hN hB
    refine ⟨gr', ng', hq, ?_⟩
    refine r_iload cd_M_hands_229 rfl ?_
    refine r_bipush cd_M_hands_231 ?_
    refine r_icmp_ge cd_M_hands_233 ⟨by omega, by omega⟩ ⟨by decide, by decide⟩ (fun c_233 => ?_) (fun c_233 => ?_)
    · skip
      exact h2
    · skip
      omega
  | succ f ih =>
    intro k l x12 h1 hN hB e
    have hnl : ((l.length : Nat) : Int) = 16 := by rw [hN.1]; rfl
    have hk : k < 16 := by omega
    have ht := th_k k hk r hr
    have e1 := then_k k hk r hr
    have e2 := sub_k k hk s hs
    have e3 := sub_b k hk s hs
    have e4 := pc_k (k ||| 2 ^ r) ht
    have bg := hbg (s : Nat) (by omega) (by omega)
    have bl := hB ((k ||| 2 ^ r : Nat) : Int) (by omega) (by omega)
    have hmis : (mis s r = 0 ∨ mis s r = 1) := by have := bt_01 s r; unfold mis; omega
    have hadm := adm_iff (s := s) (k := k) (r := r)
    have t245 : EH xs 245 [vR 40, vI row, vI n, x3, x4, x5, vI i, vI (r : Nat), vI (s : Nat), x9, vI (at_ gr (s : Nat) + (mis s r : Nat)), vI (k : Nat), vI ((k ||| 2 ^ r : Nat) : Int)] c mn mc sm om ga mr ma ax b v sv dv fa wy im kp gr l rt := by
      by_cases z : adm s k r = true ∧ at_ gr (s : Nat) + (mis s r : Nat) < at_ l ((k ||| 2 ^ r : Nat) : Int)
      · have hz := hadm.mp z.1
        obtain ⟨gr', ng', hq, e9⟩ := ih (k + 1) (l.set (k ||| 2 ^ r) (at_ gr (s : Nat) + (mis s r : Nat))) (vI ((k ||| 2 ^ r : Nat) : Int)) (by omega) (NG_set hr hs hk hN z.1 z.2) (fun j j0 j1 => by
          have a := az_set (l := l) (i := ((k ||| 2 ^ r : Nat) : Int)) (j := j) (v := at_ gr (s : Nat) + (mis s r : Nat)) (by omega) (by omega) j0
          rw [show (((k ||| 2 ^ r : Nat) : Int)).toNat = k ||| 2 ^ r by omega] at a
          rw [a]
          split
          · omega
          · exact hB j j0 j1) e
        refine ⟨gr', ng', hq, ?_⟩
        rw [show ((k + 1 : Nat) : Int) = (k : Int) + 1 by omega] at e9
        have e10 : (((k ||| 2 ^ r : Nat) : Int)).toNat = k ||| 2 ^ r := by omega
        have hnz : bAnd (k : Int) (bXor (s : Int) (-1)) = 0 := e2.mpr hz.1
        refine r_iload cd_M_hands_245 rfl ?_
        refine r_iload cd_M_hands_247 rfl ?_
        refine r_iconst cd_M_hands_249 ?_
        refine r_ixor cd_M_hands_250 ?_
        refine r_iand cd_M_hands_251 ?_
        refine r_if_ne cd_M_hands_252 ⟨by omega, by omega⟩ (fun c_252 => ?_) (fun c_252 => ?_)
        · skip
          refine r_iinc13_11 cd_M_hands_285 rfl ?_
          refine r_goto cd_M_hands_288 ?_
          first | (rw [e10]; exact e9) | omega
        · skip
          refine r_iload cd_M_hands_255 rfl ?_
          refine r_cv1 cd_M_hands_257 rfl ck_M_hands_M_bits rfl (Nat.le_of_ble_eq_true rfl) (sp_M_bits (by omega)) ?_
          refine r_iconst cd_M_hands_260 ?_
          refine r_icmp_ge cd_M_hands_261 ⟨by omega, by omega⟩ ⟨by decide, by decide⟩ (fun c_261 => ?_) (fun c_261 => ?_)
          · skip
            refine r_iinc13_11 cd_M_hands_285 rfl ?_
            refine r_goto cd_M_hands_288 ?_
            first | (rw [e10]; exact e9) | omega
          · skip
            refine r_iload cd_M_hands_264 rfl ?_
            refine r_aload_n cd_M_hands_266 rfl ?_
            refine r_getfield cd_M_hands_267 zr_O rfl ?_
            refine r_iload cd_M_hands_270 rfl ?_
            refine r_iaload (N := 16) cd_M_hands_272 zr_H hnl (by omega) (by omega) (by omega) ?_
            refine r_icmp_ge cd_M_hands_273 ⟨by omega, by omega⟩ ⟨by omega, by omega⟩ (fun c_273 => ?_) (fun c_273 => ?_)
            · skip
              refine r_iinc13_11 cd_M_hands_285 rfl ?_
              refine r_goto cd_M_hands_288 ?_
              first | (rw [e10]; exact e9) | omega
            · skip
              refine r_aload_n cd_M_hands_276 rfl ?_
              refine r_getfield cd_M_hands_277 zr_O rfl ?_
              refine r_iload cd_M_hands_280 rfl ?_
              refine r_iload cd_M_hands_282 rfl ?_
              refine r_iastore (N := 16) cd_M_hands_284 zr_H hnl (by omega) (by omega) (by omega) ?_
              refine r_iinc13_11 cd_M_hands_285 rfl ?_
              refine r_goto cd_M_hands_288 ?_
              first | (rw [e10]; exact e9) | omega
      · obtain ⟨gr', ng', hq, e9⟩ := ih (k + 1) l (vI ((k ||| 2 ^ r : Nat) : Int)) (by omega) (NG_skip hN (fun y => by
          by_cases w : at_ gr (s : Nat) + (mis s r : Nat) < at_ l ((k ||| 2 ^ r : Nat) : Int)
          · exact absurd ⟨y, w⟩ z
          · omega)) hB e
        refine ⟨gr', ng', hq, ?_⟩
        rw [show ((k + 1 : Nat) : Int) = (k : Int) + 1 by omega] at e9
        refine r_iload cd_M_hands_245 rfl ?_
        refine r_iload cd_M_hands_247 rfl ?_
        refine r_iconst cd_M_hands_249 ?_
        refine r_ixor cd_M_hands_250 ?_
        refine r_iand cd_M_hands_251 ?_
        refine r_if_ne cd_M_hands_252 ⟨by omega, by omega⟩ (fun c_252 => ?_) (fun c_252 => ?_)
        · skip
          refine r_iinc13_11 cd_M_hands_285 rfl ?_
          refine r_goto cd_M_hands_288 ?_
          exact e9
        · skip
          refine r_iload cd_M_hands_255 rfl ?_
          refine r_cv1 cd_M_hands_257 rfl ck_M_hands_M_bits rfl (Nat.le_of_ble_eq_true rfl) (sp_M_bits (by omega)) ?_
          refine r_iconst cd_M_hands_260 ?_
          refine r_icmp_ge cd_M_hands_261 ⟨by omega, by omega⟩ ⟨by decide, by decide⟩ (fun c_261 => ?_) (fun c_261 => ?_)
          · skip
            refine r_iinc13_11 cd_M_hands_285 rfl ?_
            refine r_goto cd_M_hands_288 ?_
            exact e9
          · skip
            refine r_iload cd_M_hands_264 rfl ?_
            refine r_aload_n cd_M_hands_266 rfl ?_
            refine r_getfield cd_M_hands_267 zr_O rfl ?_
            refine r_iload cd_M_hands_270 rfl ?_
            refine r_iaload (N := 16) cd_M_hands_272 zr_H hnl (by omega) (by omega) (by omega) ?_
            refine r_icmp_ge cd_M_hands_273 ⟨by omega, by omega⟩ ⟨by omega, by omega⟩ (fun c_273 => ?_) (fun c_273 => ?_)
            · skip
              refine r_iinc13_11 cd_M_hands_285 rfl ?_
              refine r_goto cd_M_hands_288 ?_
              exact e9
            · skip
              exact absurd ⟨hadm.mpr ⟨e2.mp c_252, by omega⟩, c_273⟩ z
    obtain ⟨gr', ng', hq, e9⟩ := t245
    refine ⟨gr', ng', hq, ?_⟩
    refine r_iload cd_M_hands_229 rfl ?_
    refine r_bipush cd_M_hands_231 ?_
    refine r_icmp_ge cd_M_hands_233 ⟨by omega, by omega⟩ ⟨by decide, by decide⟩ (fun c_233 => ?_) (fun c_233 => ?_)
    · skip
      omega
    · skip
      refine r_iload cd_M_hands_236 rfl ?_
      refine r_iconst cd_M_hands_238 ?_
      refine r_iload cd_M_hands_239 rfl ?_
      refine r_ishl cd_M_hands_241 ?_
      refine r_ior cd_M_hands_242 ?_
      refine r_istore13_12 cd_M_hands_243 rfl ?_
      (rw [e1]; exact e9)
theorem lp_M_sets {row n i : Int} {x3 x4 x5 : MV} {rt : Option MV} {r : Nat} (hr : r < 4) (hg : gr.length = 16) (hbg : BD gr) : ∀ (f s : Nat) (l : List Int) (x9 x10 x11 x12 : MV), s + f = 16 → NG gr r l s 0 → BD l → (∀ l' (s' : Int) a b' d e', NG gr r l' 16 0 → BD l' → EH xs 297 [vR 40, vI row, vI n, x3, x4, x5, vI i, vI (r : Nat), vI s', a, b', d, e'] c mn mc sm om ga mr ma ax b v sv dv fa wy im kp gr l' rt) → EH xs 181 [vR 40, vI row, vI n, x3, x4, x5, vI i, vI (r : Nat), vI (s : Nat), x9, x10, x11, x12] c mn mc sm om ga mr ma ax b v sv dv fa wy im kp gr l rt := by
  have hgl : ((gr.length : Nat) : Int) = 16 := by rw [hg]; rfl
  intro f
  induction f with
  | zero =>
    intro s l x9 x10 x11 x12 h1 hN hB e
    have : s = 16 := by omega
    subst this
    obtain ⟨gr', ng', hq, h2⟩ := e l ((16 : Nat) : Int) x9 x10 x11 x12 hN hB
    refine ⟨gr', ng', hq, ?_⟩
    refine r_iload cd_M_hands_181 rfl ?_
    refine r_bipush cd_M_hands_183 ?_
    refine r_icmp_ge cd_M_hands_185 ⟨by omega, by omega⟩ ⟨by decide, by decide⟩ (fun c_185 => ?_) (fun c_185 => ?_)
    · skip
      exact h2
    · skip
      omega
  | succ f ih =>
    intro s l x9 x10 x11 x12 h1 hN hB e
    have hs : s < 16 := by omega
    have eh := has_k s hs r hr
    have hb := bt_01 s r
    have bg := hbg (s : Nat) (by omega) (by omega)
    have t204 : ∀ (x : Int) (x9 : MV), (x = 1 ∧ mis s r = 0 ∨ x = 0 ∧ mis s r = 1) → EH xs 206 [vR 40, vI row, vI n, x3, x4, x5, vI i, vI (r : Nat), vI (s : Nat), vI x, x10, x11, x12] c mn mc sm om ga mr ma ax b v sv dv fa wy im kp gr l rt := by
      intro x x9 hx
      obtain ⟨gr', ng', hq, e9⟩ := lp_M_keep (xs := xs) (c := c) (mn := mn) (mc := mc) (sm := sm) (om := om) (ga := ga) (mr := mr) (ma := ma) (ax := ax) (b := b) (v := v) (sv := sv) (dv := dv) (fa := fa) (wy := wy) (im := im) (kp := kp) (row := row) (n := n) (i := i) (x3 := x3) (x4 := x4) (x5 := x5) (x9 := vI x) (rt := rt) hr hs hg hbg 16 0 l x12 (by omega) hN hB (fun l' k' y hN' hB' => by
        obtain ⟨gr', ng', hq, e9⟩ := ih (s + 1) l' (vI x) (vI (at_ gr (s : Nat) + (mis s r : Nat))) (vI k') y (by omega) (NG_row hN') hB' e
        refine ⟨gr', ng', hq, ?_⟩
        rw [show ((s + 1 : Nat) : Int) = (s : Int) + 1 by omega] at e9
        refine r_iinc13_8 cd_M_hands_291 rfl ?_
        refine r_goto cd_M_hands_294 ?_
        exact e9
        )
      refine ⟨gr', ng', hq, ?_⟩
      have t223 : ∀ z : Int, z = (mis s r : Nat) → Rn xs m_M_hands 223 [vR 40, vI row, vI n, x3, x4, x5, vI i, vI (r : Nat), vI (s : Nat), vI x, x10, x11, x12] [vI z, vI (at_ gr (s : Nat))] (z40 c (rf mn mc sm om ga mr ma ax b v sv dv fa gr l wy im kp)) rt (z40 c (rf mn mc sm om ga mr ma ax b v sv dv fa gr' ng' wy im kp)) := by
        intro z hz
        subst hz
        refine r_iadd cd_M_hands_223 ?_
        refine r_istore13_10 cd_M_hands_224 rfl ?_
        refine r_iconst cd_M_hands_226 ?_
        refine r_istore13_11 cd_M_hands_227 rfl ?_
        exact e9
      refine r_aload_n cd_M_hands_206 rfl ?_
      refine r_getfield cd_M_hands_207 zr_O rfl ?_
      refine r_iload cd_M_hands_210 rfl ?_
      refine r_iaload (N := 16) cd_M_hands_212 zr_G hgl (by omega) (by omega) (by omega) ?_
      refine r_iload cd_M_hands_213 rfl ?_
      refine r_if_eq cd_M_hands_215 ⟨by omega, by omega⟩ (fun c_215 => ?_) (fun c_215 => ?_)
      · skip
        refine r_iconst cd_M_hands_222 ?_
        exact t223 _ (by omega)
      · skip
        refine r_iconst cd_M_hands_218 ?_
        refine r_goto cd_M_hands_219 ?_
        exact t223 _ (by omega)
    have u1 := t204 1 vU
    have u0 := t204 0 vU
    by_cases z : bt s r = 1
    · have hm : mis s r = 0 := by unfold mis; omega
      obtain ⟨gr', ng', hq, e9⟩ := u1 (Or.inl ⟨rfl, hm⟩)
      refine ⟨gr', ng', hq, ?_⟩
      refine r_iload cd_M_hands_181 rfl ?_
      refine r_bipush cd_M_hands_183 ?_
      refine r_icmp_ge cd_M_hands_185 ⟨by omega, by omega⟩ ⟨by decide, by decide⟩ (fun c_185 => ?_) (fun c_185 => ?_)
      · skip
        omega
      · skip
        refine r_iload cd_M_hands_188 rfl ?_
        refine r_iload cd_M_hands_190 rfl ?_
        refine r_ishr cd_M_hands_192 ?_
        refine r_iconst cd_M_hands_193 ?_
        refine r_iand cd_M_hands_194 ?_
        refine r_iconst cd_M_hands_195 ?_
        refine r_icmp_ne cd_M_hands_196 ⟨by rw [eh]; omega, by rw [eh]; omega⟩ ⟨by decide, by decide⟩ (fun c_196 => ?_) (fun c_196 => ?_)
        · skip
          (rw [eh] at c_196; omega)
        · skip
          refine r_iconst cd_M_hands_199 ?_
          refine r_goto cd_M_hands_200 ?_
          refine r_istore13_9 cd_M_hands_204 rfl ?_
          exact e9
    · have hm : mis s r = 1 := by unfold mis; omega
      obtain ⟨gr', ng', hq, e9⟩ := u0 (Or.inr ⟨rfl, hm⟩)
      refine ⟨gr', ng', hq, ?_⟩
      refine r_iload cd_M_hands_181 rfl ?_
      refine r_bipush cd_M_hands_183 ?_
      refine r_icmp_ge cd_M_hands_185 ⟨by omega, by omega⟩ ⟨by decide, by decide⟩ (fun c_185 => ?_) (fun c_185 => ?_)
      · skip
        omega
      · skip
        refine r_iload cd_M_hands_188 rfl ?_
        refine r_iload cd_M_hands_190 rfl ?_
        refine r_ishr cd_M_hands_192 ?_
        refine r_iconst cd_M_hands_193 ?_
        refine r_iand cd_M_hands_194 ?_
        refine r_iconst cd_M_hands_195 ?_
        refine r_icmp_ne cd_M_hands_196 ⟨by rw [eh]; omega, by rw [eh]; omega⟩ ⟨by decide, by decide⟩ (fun c_196 => ?_) (fun c_196 => ?_)
        · skip
          refine r_iconst cd_M_hands_203 ?_
          refine r_istore13_9 cd_M_hands_204 rfl ?_
          exact e9
        · skip
          (rw [eh] at c_196; omega)
-- the copy
theorem lp_M_cpy {row n i : Int} {x7 : Int} {x3 x4 x5 x9 x10 x11 x12 : MV} {rt : Option MV} {l : List Int} (hn' : l.length = 16) : ∀ (f : Nat) (j : Int) (g : List Int), 0 ≤ j → j + f = 16 → g.length = 16 → (∀ q : Int, 0 ≤ q → q < j → at_ g q = at_ l q) → (∀ s' : Int, EH xs 327 [vR 40, vI row, vI n, x3, x4, x5, vI i, vI x7, vI s', x9, x10, x11, x12] c mn mc sm om ga mr ma ax b v sv dv fa wy im kp l l rt) → EH xs 300 [vR 40, vI row, vI n, x3, x4, x5, vI i, vI x7, vI j, x9, x10, x11, x12] c mn mc sm om ga mr ma ax b v sv dv fa wy im kp g l rt := by
  have hnl : ((l.length : Nat) : Int) = 16 := by rw [hn']; rfl
  intro f
  induction f with
  | zero =>
    intro j g j0 j1 hg hq e
    have : g = l := ext_at hg hn' (fun q q0 q1 => hq q q0 (by omega))
    subst this
    obtain ⟨gr', ng', hh, h2⟩ := e j
    refine ⟨gr', ng', hh, ?_⟩
    refine r_iload cd_M_hands_300 rfl ?_
    refine r_bipush cd_M_hands_302 ?_
    refine r_icmp_ge cd_M_hands_304 ⟨by omega, by omega⟩ ⟨by decide, by decide⟩ (fun c_304 => ?_) (fun c_304 => ?_)
    · skip
      exact h2
    · skip
      omega
  | succ f ih =>
    intro j g j0 j1 hg hq e
    have hgl : ((g.length : Nat) : Int) = 16 := by rw [hg]; rfl
    obtain ⟨gr', ng', hh, e9⟩ := ih (j + 1) (g.set j.toNat (at_ l j)) (by omega) (by omega) (by rw [List.length_set]; exact hg) (cp_step j0 (by omega) hq) e
    refine ⟨gr', ng', hh, ?_⟩
    refine r_iload cd_M_hands_300 rfl ?_
    refine r_bipush cd_M_hands_302 ?_
    refine r_icmp_ge cd_M_hands_304 ⟨by omega, by omega⟩ ⟨by decide, by decide⟩ (fun c_304 => ?_) (fun c_304 => ?_)
    · skip
      omega
    · skip
      refine r_aload_n cd_M_hands_307 rfl ?_
      refine r_getfield cd_M_hands_308 zr_O rfl ?_
      refine r_iload cd_M_hands_311 rfl ?_
      refine r_aload_n cd_M_hands_313 rfl ?_
      refine r_getfield cd_M_hands_314 zr_O rfl ?_
      refine r_iload cd_M_hands_317 rfl ?_
      refine r_iaload (N := 16) cd_M_hands_319 zr_H hnl (by omega) (by omega) (by omega) ?_
      refine r_iastore (N := 16) cd_M_hands_320 zr_G hgl (by omega) (by omega) (by omega) ?_
      refine r_iinc13_8 cd_M_hands_321 rfl ?_
      refine r_goto cd_M_hands_324 ?_
      exact e9
-- a table full of what is too much
theorem lp_M_far {row n i : Int} {x7 : Int} {x3 x4 x5 x9 x10 x11 x12 : MV} {rt : Option MV} : ∀ (f : Nat) (j : Int) (l : List Int), 0 ≤ j → j + f = 16 → l.length = 16 → (∀ q : Int, 0 ≤ q → q < j → at_ l q = 1000000) → (∀ (l' : List Int) (s' : Int), l'.length = 16 → (∀ q : Int, 0 ≤ q → q < 16 → at_ l' q = 1000000) → EH xs 178 [vR 40, vI row, vI n, x3, x4, x5, vI i, vI x7, vI s', x9, x10, x11, x12] c mn mc sm om ga mr ma ax b v sv dv fa wy im kp gr l' rt) → EH xs 156 [vR 40, vI row, vI n, x3, x4, x5, vI i, vI x7, vI j, x9, x10, x11, x12] c mn mc sm om ga mr ma ax b v sv dv fa wy im kp gr l rt := by
  intro f
  induction f with
  | zero =>
    intro j l j0 j1 hl hq e
    obtain ⟨gr', ng', hh, h2⟩ := e l j hl (fun q q0 q1 => hq q q0 (by omega))
    refine ⟨gr', ng', hh, ?_⟩
    refine r_iload cd_M_hands_156 rfl ?_
    refine r_bipush cd_M_hands_158 ?_
    refine r_icmp_ge cd_M_hands_160 ⟨by omega, by omega⟩ ⟨by decide, by decide⟩ (fun c_160 => ?_) (fun c_160 => ?_)
    · skip
      exact h2
    · skip
      omega
  | succ f ih =>
    intro j l j0 j1 hl hq e
    have hnl : ((l.length : Nat) : Int) = 16 := by rw [hl]; rfl
    obtain ⟨gr', ng', hh, e9⟩ := ih (j + 1) (l.set j.toNat 1000000) (by omega) (by omega) (by rw [List.length_set]; exact hl) (fun q q0 q1 => by
      rw [az_set j0 (by omega) q0]
      split
      · rfl
      · exact hq q q0 (by omega)) e
    refine ⟨gr', ng', hh, ?_⟩
    refine r_iload cd_M_hands_156 rfl ?_
    refine r_bipush cd_M_hands_158 ?_
    refine r_icmp_ge cd_M_hands_160 ⟨by omega, by omega⟩ ⟨by decide, by decide⟩ (fun c_160 => ?_) (fun c_160 => ?_)
    · skip
      omega
    · skip
      refine r_aload_n cd_M_hands_163 rfl ?_
      refine r_getfield cd_M_hands_164 zr_O rfl ?_
      refine r_iload cd_M_hands_167 rfl ?_
      refine r_ldc cd_M_hands_169 ?_
      refine r_iastore (N := 16) cd_M_hands_171 zr_H hnl (by omega) (by omega) (by omega) ?_
      refine r_iinc13_8 cd_M_hands_172 rfl ?_
      refine r_goto cd_M_hands_175 ?_
      exact e9
theorem drp_div : ∀ (m : Nat) (r : Int), drp m r = r / (10 ^ m : Nat)
  | 0, r => by unfold drp; rw [Nat.pow_zero, Int.natCast_one, Int.ediv_one]
  | m + 1, r => by
    unfold drp
    rw [drp_div m (r / 10), Int.ediv_ediv_of_nonneg (by omega), Nat.pow_succ, Nat.mul_comm, Int.natCast_mul]
    rfl
-- the requests one by one
theorem lp_M_req {row n y3 y5 : Int} {rt : Option MV} (r0 : 0 ≤ row) (r1 : row ≤ 2147483647) (n1 : n ≤ 9) (hdg : ∀ i : Int, 0 ≤ i → i < n → nd row n i < 4) : ∀ (f : Nat) (i by' : Int) (d W : Nat) (m : Int) (g l : List Int) (x7 x8 x9 x10 x11 x12 : MV), 0 ≤ i → i + f = n → (i < n → by' = (10 ^ (n - 1 - i).toNat : Nat)) → d < 5 → W < 16 → vB d W = true → 0 ≤ m → m ≤ i → DInv g d W m → BD g → l.length = 16 → (∀ (g' l' : List Int) (i' b' : Int) (d' W' : Nat) (m' : Int) (z7 z8 z9 z10 z11 z12 : MV), m' = hmA row n f i d W m → d' < 5 → W' < 16 → vB d' W' = true → 0 ≤ m' → m' ≤ n → DInv g' d' W' m' → BD g' → l'.length = 16 → EH xs 333 [vR 40, vI row, vI n, vI y3, vI b', vI y5, vI i', z7, z8, z9, z10, z11, z12] c mn mc sm om ga mr ma ax b v sv dv fa wy im kp g' l' rt) → EH xs 131 [vR 40, vI row, vI n, vI y3, vI by', vI y5, vI i, x7, x8, x9, x10, x11, x12] c mn mc sm om ga mr ma ax b v sv dv fa wy im kp g l rt := by
  intro f
  induction f with
  | zero =>
    intro i by' d W m g l x7 x8 x9 x10 x11 x12 i0 i1 hby hd hW hv m0 m1 hD hB hl e
    obtain ⟨gr', ng', hh, h2⟩ := e g l i by' d W m x7 x8 x9 x10 x11 x12 rfl hd hW hv m0 (by omega) hD hB hl
    refine ⟨gr', ng', hh, ?_⟩
    refine r_iload cd_M_hands_131 rfl ?_
    refine r_iload_n cd_M_hands_133 rfl ?_
    refine r_icmp_ge cd_M_hands_134 ⟨by omega, by omega⟩ ⟨by omega, by omega⟩ (fun c_134 => ?_) (fun c_134 => ?_)
    · skip
      exact h2
    · skip
      omega
  | succ f ih =>
    intro i by' d W m g l x7 x8 x9 x10 x11 x12 i0 i1 hby hd hW hv m0 m1 hD hB hl e
    have hr := hdg i i0 (by omega)
    have hr0 := (nd_bd (n := n) (i := i) r0).1
    obtain ⟨r, hrr⟩ := Int.eq_ofNat_of_zero_le hr0
    have hr4 : r < 4 := by omega
    have hv2 := kV_g hd hW hr4 hv
    have sm1 := stM_1 d W r
    have hby2 := hby (by omega)
    have hpp : 0 < (10 ^ (n - 1 - i).toNat : Nat) := Nat.pow_pos (by omega)
    have hpm : (10 ^ (n - 1 - i).toNat : Nat) ≤ 10 ^ 8 := Nat.pow_le_pow_right (by omega) (by omega)
    have hq0 : 0 ≤ row / by' := Int.ediv_nonneg r0 (by omega)
    have hq1 : row / by' ≤ row := Int.ediv_le_self _ r0
    have e1 : row.tdiv by' = row / by' := Int.tdiv_eq_ediv_of_nonneg r0
    have e2 : (row / by').tmod 10 = row / by' % 10 := Int.tmod_eq_emod_of_nonneg hq0
    have e3 : row / by' % 10 = (r : Int) := by
      rw [← hrr, hby2]
      unfold nd
      rw [drp_div]
    have e4 : by'.tdiv 10 = by' / 10 := Int.tdiv_eq_ediv_of_nonneg (by omega)
    have e5 : i + 1 < n → by' / 10 = (10 ^ (n - 1 - (i + 1)).toNat : Nat) := by
      intro z
      rw [hby2, show (n - 1 - i).toNat = (n - 1 - (i + 1)).toNat + 1 by omega, Nat.pow_succ]
      omega
    have eH : hmA row n (f + 1) i d W m = hmA row n f (i + 1) r (stW d W r) (m + stM d W r) := by
      show hmA row n f (i + 1) (nd row n i).toNat (stW d W (nd row n i).toNat) (m + stM d W (nd row n i).toNat) = _
      rw [hrr, show ((r : Int)).toNat = r by omega]
    rw [eH] at e
    have t297 : ∀ l' (s' : Int) a b' d2 e', NG g r l' 16 0 → BD l' → EH xs 297 [vR 40, vI row, vI n, vI y3, vI (by' / 10), vI y5, vI i, vI (r : Nat), vI s', a, b', d2, e'] c mn mc sm om ga mr ma ax b v sv dv fa wy im kp g l' rt := by
      intro l' s' a b' d2 e' hN hB'
      have hD2 := DInv_step hd hW hr4 hv (by omega) hD hN
      obtain ⟨gr', ng', hh, e9⟩ := lp_M_cpy (xs := xs) (c := c) (mn := mn) (mc := mc) (sm := sm) (om := om) (ga := ga) (mr := mr) (ma := ma) (ax := ax) (b := b) (v := v) (sv := sv) (dv := dv) (fa := fa) (wy := wy) (im := im) (kp := kp) (row := row) (n := n) (i := i) (x7 := (r : Nat)) (x3 := vI y3) (x4 := vI (by' / 10)) (x5 := vI y5) (x9 := a) (x10 := b') (x11 := d2) (x12 := e') (rt := rt) hN.1 16 0 g (by omega) (by omega) hD.1 (fun q q0 q1 => by omega) (fun s2 => by
        obtain ⟨gr', ng', hh, e9⟩ := ih (i + 1) (by' / 10) r (stW d W r) (m + stM d W r) l' l' (vI (r : Nat)) (vI s2) a b' d2 e' (by omega) (by omega) e5 (by omega) hv2.2 hv2.1 (by omega) (by omega) hD2 hB' hN.1 e
        refine ⟨gr', ng', hh, ?_⟩
        refine r_iinc13_6 cd_M_hands_327 rfl ?_
        refine r_goto cd_M_hands_330 ?_
        exact e9
        )
      refine ⟨gr', ng', hh, ?_⟩
      refine r_iconst cd_M_hands_297 ?_
      refine r_istore13_8 cd_M_hands_298 rfl ?_
      exact e9
    have t178 : ∀ (l' : List Int) (s' : Int), l'.length = 16 → (∀ q : Int, 0 ≤ q → q < 16 → at_ l' q = 1000000) → EH xs 178 [vR 40, vI row, vI n, vI y3, vI (by' / 10), vI y5, vI i, vI (r : Nat), vI s', x9, x10, x11, x12] c mn mc sm om ga mr ma ax b v sv dv fa wy im kp g l' rt := by
      intro l' s' hl' hf
      obtain ⟨gr', ng', hh, e9⟩ := lp_M_sets (xs := xs) (c := c) (mn := mn) (mc := mc) (sm := sm) (om := om) (ga := ga) (mr := mr) (ma := ma) (ax := ax) (b := b) (v := v) (sv := sv) (dv := dv) (fa := fa) (wy := wy) (im := im) (kp := kp) (row := row) (n := n) (i := i) (x3 := vI y3) (x4 := vI (by' / 10)) (x5 := vI y5) (rt := rt) hr4 hD.1 hB 16 0 l' x9 x10 x11 x12 (by omega) (NG_init hl' hf) (fun j j0 j1 => by rw [hf j j0 j1]; omega) t297
      refine ⟨gr', ng', hh, ?_⟩
      refine r_iconst cd_M_hands_178 ?_
      refine r_istore13_8 cd_M_hands_179 rfl ?_
      exact e9
    obtain ⟨gr', ng', hh, e9⟩ := lp_M_far (xs := xs) (c := c) (mn := mn) (mc := mc) (sm := sm) (om := om) (ga := ga) (mr := mr) (ma := ma) (ax := ax) (b := b) (v := v) (sv := sv) (dv := dv) (fa := fa) (gr := g) (wy := wy) (im := im) (kp := kp) (row := row) (n := n) (i := i) (x7 := (r : Nat)) (x3 := vI y3) (x4 := vI (by' / 10)) (x5 := vI y5) (x9 := x9) (x10 := x10) (x11 := x11) (x12 := x12) (rt := rt) 16 0 l (by omega) (by omega) hl (fun q q0 q1 => by omega) t178
    refine ⟨gr', ng', hh, ?_⟩
    have t146 : Rn xs m_M_hands 146 [vR 40, vI row, vI n, vI y3, vI by', vI y5, vI i, vI (r : Nat), x8, x9, x10, x11, x12] [] (z40 c (rf mn mc sm om ga mr ma ax b v sv dv fa g l wy im kp)) rt (z40 c (rf mn mc sm om ga mr ma ax b v sv dv fa gr' ng' wy im kp)) := by
      refine r_iload cd_M_hands_146 rfl ?_
      refine r_bipush cd_M_hands_148 ?_
      refine r_idiv cd_M_hands_150 ⟨by omega, by omega⟩ ⟨by decide, by decide⟩ (by decide) ?_
      refine r_istore13_4 cd_M_hands_151 rfl ?_
      refine r_iconst cd_M_hands_153 ?_
      refine r_istore13_8 cd_M_hands_154 rfl ?_
      (rw [e4]; exact e9)
    refine r_iload cd_M_hands_131 rfl ?_
    refine r_iload_n cd_M_hands_133 rfl ?_
    refine r_icmp_ge cd_M_hands_134 ⟨by omega, by omega⟩ ⟨by omega, by omega⟩ (fun c_134 => ?_) (fun c_134 => ?_)
    · skip
      omega
    · skip
      refine r_iload_n cd_M_hands_137 rfl ?_
      refine r_iload cd_M_hands_138 rfl ?_
      refine r_idiv cd_M_hands_140 ⟨by omega, by omega⟩ ⟨by omega, by omega⟩ (by omega) ?_
      refine r_bipush cd_M_hands_141 ?_
      refine r_irem cd_M_hands_143 ⟨by first | (rw [e1]; omega) | omega, by first | (rw [e1]; omega) | omega⟩ ⟨by decide, by decide⟩ (by decide) ?_
      refine r_istore13_7 cd_M_hands_144 rfl ?_
      (rw [e1, e2, e3]; exact t146)
-- the least
theorem cls_z {d W : Nat} (hd : d < 5) (hv : vB d W = true) : ∃ s : Nat, s < 16 ∧ cls d W s = 0 := by
  have : d = 0 ∨ d = 1 ∨ d = 2 ∨ d = 3 ∨ d = 4 := by omega
  rcases this with rfl | rfl | rfl | rfl | rfl
  · exact ⟨1, by decide, by unfold cls bt pc4; rw [show (1 - 2 ^ 0 : Nat) = 0 by rfl, Nat.zero_and]; rfl⟩
  · exact ⟨2, by decide, by unfold cls bt pc4; rw [show (2 - 2 ^ 1 : Nat) = 0 by rfl, Nat.zero_and]; rfl⟩
  · exact ⟨4, by decide, by unfold cls bt pc4; rw [show (4 - 2 ^ 2 : Nat) = 0 by rfl, Nat.zero_and]; rfl⟩
  · exact ⟨8, by decide, by unfold cls bt pc4; rw [show (8 - 2 ^ 3 : Nat) = 0 by rfl, Nat.zero_and]; rfl⟩
  · exact ⟨0, by decide, rfl⟩
theorem lp_M_least {row n y3 b' y5 m : Int} {d W : Nat} {x8 x9 x10 x11 x12 : MV} (hd : d < 5) (hv : vB d W = true) (m1 : m ≤ 1000) (hD : DInv gr d W m) (hB : BD gr) : ∀ (f : Nat) (j lt : Int), 0 ≤ j → j + f = 16 → m ≤ lt → lt ≤ 1000000 → (∀ q : Int, 0 ≤ q → q < j → lt ≤ at_ gr q) → Rn xs m_M_hands 340 [vR 40, vI row, vI n, vI y3, vI b', vI y5, vI lt, vI j, x8, x9, x10, x11, x12] [] (z40 c (rf mn mc sm om ga mr ma ax b v sv dv fa gr ng wy im kp)) (some (vI m)) (z40 c (rf mn mc sm om ga mr ma ax b v sv dv fa gr ng wy im kp)) := by
  have hgl : ((gr.length : Nat) : Int) = 16 := by rw [hD.1]; rfl
  obtain ⟨s0, hs0, hz0⟩ := cls_z hd hv
  have hm := (hD.2 s0 hs0).2 hz0
  have hb0 := hB s0 (by omega) (by omega)
  intro f
  induction f with
  | zero =>
    intro j lt j0 j1 h0 h1 hq
    have := hq s0 (by omega) (by omega)
    refine r_iload cd_M_hands_340 rfl ?_
    refine r_bipush cd_M_hands_342 ?_
    refine r_icmp_ge cd_M_hands_344 ⟨by omega, by omega⟩ ⟨by decide, by decide⟩ (fun c_344 => ?_) (fun c_344 => ?_)
    · skip
      refine r_iload cd_M_hands_379 rfl ?_
      exact r_iret cd_M_hands_381 rt_M_hands (by omega) (by rfl)
    · skip
      omega
  | succ f ih =>
    intro j lt j0 j1 h0 h1 hq
    have hb := hB j j0 (by omega)
    have hlo := (hD.2 j.toNat (by omega)).1
    rw [show ((j.toNat : Nat) : Int) = j by omega] at hlo
    have t371 : ∀ x, x = (if at_ gr j < lt then at_ gr j else lt) → Rn xs m_M_hands 371 [vR 40, vI row, vI n, vI y3, vI b', vI y5, vI lt, vI j, x8, x9, x10, x11, x12] [vI x] (z40 c (rf mn mc sm om ga mr ma ax b v sv dv fa gr ng wy im kp)) (some (vI m)) (z40 c (rf mn mc sm om ga mr ma ax b v sv dv fa gr ng wy im kp)) := by
      intro x hx
      have e9 := ih (j + 1) x (by omega) (by omega) (by rw [hx]; split <;> omega) (by rw [hx]; split <;> omega) (fun q q0 q1 => by
        by_cases y : q = j
        · rw [y, hx]; split <;> omega
        · have := hq q q0 (by omega)
          rw [hx]; split <;> omega)
      refine r_istore13_6 cd_M_hands_371 rfl ?_
      refine r_iinc13_7 cd_M_hands_373 rfl ?_
      refine r_goto cd_M_hands_376 ?_
      exact e9
    refine r_iload cd_M_hands_340 rfl ?_
    refine r_bipush cd_M_hands_342 ?_
    refine r_icmp_ge cd_M_hands_344 ⟨by omega, by omega⟩ ⟨by decide, by decide⟩ (fun c_344 => ?_) (fun c_344 => ?_)
    · skip
      omega
    · skip
      refine r_aload_n cd_M_hands_347 rfl ?_
      refine r_getfield cd_M_hands_348 zr_O rfl ?_
      refine r_iload cd_M_hands_351 rfl ?_
      refine r_iaload (N := 16) cd_M_hands_353 zr_G hgl (by omega) (by omega) (by omega) ?_
      refine r_iload cd_M_hands_354 rfl ?_
      refine r_icmp_ge cd_M_hands_356 ⟨by omega, by omega⟩ ⟨by omega, by omega⟩ (fun c_356 => ?_) (fun c_356 => ?_)
      · skip
        refine r_iload cd_M_hands_369 rfl ?_
        first | exact t371 _ (by rw [if_pos (by omega)]) | exact t371 _ (by rw [if_neg (by omega)])
      · skip
        refine r_aload_n cd_M_hands_359 rfl ?_
        refine r_getfield cd_M_hands_360 zr_O rfl ?_
        refine r_iload cd_M_hands_363 rfl ?_
        refine r_iaload (N := 16) cd_M_hands_365 zr_G hgl (by omega) (by omega) (by omega) ?_
        refine r_goto cd_M_hands_366 ?_
        first | exact t371 _ (by rw [if_pos (by omega)]) | exact t371 _ (by rw [if_neg (by omega)])
-- is it a row
def gdA : Nat → Int → Bool
  | 0, _ => true
  | k + 1, r => decide (r % 10 < 4) && gdA k (r / 10)
theorem iw_gd : ∀ (k : Nat) (r : Int), iwA k r = (gdA k r && decide (drp k r = 0))
  | 0, r => by unfold iwA gdA drp; rw [Bool.true_and]
  | k + 1, r => by
    unfold iwA gdA drp
    by_cases z : 4 ≤ r % 10
    · rw [if_pos z, decide_eq_false (by omega), Bool.false_and, Bool.false_and]
    · rw [if_neg z, decide_eq_true (by omega), Bool.true_and]
      exact iw_gd k (r / 10)
theorem lp_M_row {row n : Int} {rt : Option MV} (n1 : n ≤ 9) : ∀ (k : Nat) (i left good by' : Int), 0 ≤ i → i + k = n → 0 ≤ left → left ≤ 2147483647 → (good = 0 ∨ good = 1) → by' = (10 ^ (i - 1).toNat : Nat) → (∀ i' : Int, EH xs 82 [vR 40, vI row, vI n, vI (drp k left), vI (10 ^ (n - 1).toNat : Nat), vI (if good = 1 ∧ gdA k left = true then 1 else 0), vI i', vU, vU, vU, vU, vU, vU] c mn mc sm om ga mr ma ax b v sv dv fa wy im kp gr ng rt) → EH xs 28 [vR 40, vI row, vI n, vI left, vI by', vI good, vI i, vU, vU, vU, vU, vU, vU] c mn mc sm om ga mr ma ax b v sv dv fa wy im kp gr ng rt := by
  intro k
  induction k with
  | zero =>
    intro i left good by' i0 i1 l0 l1 hg hb e
    have e2 : (if good = 1 ∧ gdA 0 left = true then (1 : Int) else 0) = good := by
      rcases hg with rfl | rfl
      · rw [if_neg (by omega)]
      · rw [if_pos ⟨rfl, rfl⟩]
    rw [e2, show n = i by omega, ← hb] at e
    obtain ⟨gr', ng', hh, h2⟩ := e i
    refine ⟨gr', ng', hh, ?_⟩
    rw [show n = i by omega]
    refine r_iload cd_M_hands_28 rfl ?_
    refine r_iload_n cd_M_hands_30 rfl ?_
    refine r_icmp_ge cd_M_hands_31 ⟨by omega, by omega⟩ ⟨by omega, by omega⟩ (fun c_31 => ?_) (fun c_31 => ?_)
    · skip
      exact h2
    · skip
      omega
  | succ k ih =>
    intro i left good by' i0 i1 l0 l1 hg hb e
    have e1 : left.tmod 10 = left % 10 := Int.tmod_eq_emod_of_nonneg l0
    have e2 : left.tdiv 10 = left / 10 := Int.tdiv_eq_ediv_of_nonneg l0
    have t52 : ∀ g2 : Int, (g2 = if good = 1 ∧ left % 10 < 4 then 1 else 0) → EH xs 54 [vR 40, vI row, vI n, vI left, vI by', vI g2, vI i, vU, vU, vU, vU, vU, vU] c mn mc sm om ga mr ma ax b v sv dv fa wy im kp gr ng rt := by
      intro g2 hg2
      have hg3 : g2 = 0 ∨ g2 = 1 := by rw [hg2]; split <;> omega
      obtain ⟨gr', ng', hh, e9⟩ := ih (i + 1) (left / 10) g2 (10 ^ (i + 1 - 1).toNat : Nat) (by omega) (by omega) (by omega) (by omega) hg3 rfl (fun i' => by
        have e8 := e i'
        have e7 : (if good = 1 ∧ gdA (k + 1) left = true then (1 : Int) else 0) = if g2 = 1 ∧ gdA k (left / 10) = true then 1 else 0 := by
          have eg : gdA (k + 1) left = (decide (left % 10 < 4) && gdA k (left / 10)) := rfl
          rw [eg]
          by_cases y : good = 1 ∧ left % 10 < 4
          · rw [if_pos y] at hg2
            rw [decide_eq_true y.2, Bool.true_and]
            by_cases x : gdA k (left / 10) = true
            · rw [if_pos ⟨y.1, x⟩, if_pos ⟨hg2, x⟩]
            · rw [if_neg (fun z => x z.2), if_neg (fun z => x z.2)]
          · rw [if_neg y] at hg2
            rw [if_neg (fun z => y ⟨z.1, by have := z.2; rw [Bool.and_eq_true, decide_eq_true_iff] at this; exact this.1⟩), if_neg (fun z => by omega)]
        rw [e7] at e8
        exact e8)
      refine ⟨gr', ng', hh, ?_⟩
      have t74 : ∀ z : Int, z = (10 ^ (i + 1 - 1).toNat : Nat) → Rn xs m_M_hands 74 [vR 40, vI row, vI n, vI (left / 10), vI by', vI g2, vI i, vU, vU, vU, vU, vU, vU] [vI z] (z40 c (rf mn mc sm om ga mr ma ax b v sv dv fa gr ng wy im kp)) rt (z40 c (rf mn mc sm om ga mr ma ax b v sv dv fa gr' ng' wy im kp)) := by
        intro z hz
        subst hz
        refine r_istore13_4 cd_M_hands_74 rfl ?_
        refine r_iinc13_6 cd_M_hands_76 rfl ?_
        refine r_goto cd_M_hands_79 ?_
        exact e9
      have p1 : i > 0 → 10 * by' = (10 ^ (i + 1 - 1).toNat : Nat) := by
        intro z
        rw [hb, show (i + 1 - 1).toNat = (i - 1).toNat + 1 by omega, Nat.pow_succ]
        omega
      have p0 : i ≤ 0 → by' = (10 ^ (i + 1 - 1).toNat : Nat) := by
        intro z
        rw [hb, show (i + 1 - 1).toNat = (i - 1).toNat by omega]
      have t58 : Rn xs m_M_hands 59 [vR 40, vI row, vI n, vI (left / 10), vI by', vI g2, vI i, vU, vU, vU, vU, vU, vU] [] (z40 c (rf mn mc sm om ga mr ma ax b v sv dv fa gr ng wy im kp)) rt (z40 c (rf mn mc sm om ga mr ma ax b v sv dv fa gr' ng' wy im kp)) := by
        refine r_iload cd_M_hands_59 rfl ?_
        refine r_if_le cd_M_hands_61 ⟨by omega, by omega⟩ (fun c_61 => ?_) (fun c_61 => ?_)
        · skip
          refine r_iload cd_M_hands_72 rfl ?_
          first | exact t74 _ (p1 (by omega)) | exact t74 _ (p0 (by omega))
        · skip
          refine r_bipush cd_M_hands_64 ?_
          refine r_iload cd_M_hands_66 rfl ?_
          refine r_imul cd_M_hands_68 ?_
          refine r_goto cd_M_hands_69 ?_
          first | exact t74 _ (p1 (by omega)) | exact t74 _ (p0 (by omega))
      refine r_iload_n cd_M_hands_54 rfl ?_
      refine r_bipush cd_M_hands_55 ?_
      refine r_idiv cd_M_hands_57 ⟨by omega, by omega⟩ ⟨by decide, by decide⟩ (by decide) ?_
      refine r_istoren13_3 cd_M_hands_58 rfl ?_
      (rw [e2]; exact t58)
    have t1 := t52 1
    have t0 := t52 0
    by_cases y : good = 1 ∧ left % 10 < 4
    · obtain ⟨gr', ng', hh, e9⟩ := t1 (by rw [if_pos y])
      refine ⟨gr', ng', hh, ?_⟩
      refine r_iload cd_M_hands_28 rfl ?_
      refine r_iload_n cd_M_hands_30 rfl ?_
      refine r_icmp_ge cd_M_hands_31 ⟨by omega, by omega⟩ ⟨by omega, by omega⟩ (fun c_31 => ?_) (fun c_31 => ?_)
      · skip
        omega
      · skip
        refine r_iload cd_M_hands_34 rfl ?_
        refine r_if_eq cd_M_hands_36 ⟨by omega, by omega⟩ (fun c_36 => ?_) (fun c_36 => ?_)
        · skip
          first | omega | (rw [e1] at c_44; omega)
        · skip
          refine r_iload_n cd_M_hands_39 rfl ?_
          refine r_bipush cd_M_hands_40 ?_
          refine r_irem cd_M_hands_42 ⟨by omega, by omega⟩ ⟨by decide, by decide⟩ (by decide) ?_
          refine r_iconst cd_M_hands_43 ?_
          refine r_icmp_ge cd_M_hands_44 ⟨by first | (rw [e1]; omega) | decide, by first | (rw [e1]; omega) | decide⟩ ⟨by decide, by decide⟩ (fun c_44 => ?_) (fun c_44 => ?_)
          · skip
            first | omega | (rw [e1] at c_44; omega)
          · skip
            refine r_iconst cd_M_hands_47 ?_
            refine r_goto cd_M_hands_48 ?_
            refine r_istore13_5 cd_M_hands_52 rfl ?_
            exact e9
    · obtain ⟨gr', ng', hh, e9⟩ := t0 (by rw [if_neg y])
      refine ⟨gr', ng', hh, ?_⟩
      refine r_iload cd_M_hands_28 rfl ?_
      refine r_iload_n cd_M_hands_30 rfl ?_
      refine r_icmp_ge cd_M_hands_31 ⟨by omega, by omega⟩ ⟨by omega, by omega⟩ (fun c_31 => ?_) (fun c_31 => ?_)
      · skip
        omega
      · skip
        refine r_iload cd_M_hands_34 rfl ?_
        refine r_if_eq cd_M_hands_36 ⟨by omega, by omega⟩ (fun c_36 => ?_) (fun c_36 => ?_)
        · skip
          refine r_iconst cd_M_hands_51 ?_
          refine r_istore13_5 cd_M_hands_52 rfl ?_
          exact e9
        · skip
          refine r_iload_n cd_M_hands_39 rfl ?_
          refine r_bipush cd_M_hands_40 ?_
          refine r_irem cd_M_hands_42 ⟨by omega, by omega⟩ ⟨by decide, by decide⟩ (by decide) ?_
          refine r_iconst cd_M_hands_43 ?_
          refine r_icmp_ge cd_M_hands_44 ⟨by first | (rw [e1]; omega) | decide, by first | (rw [e1]; omega) | decide⟩ ⟨by decide, by decide⟩ (fun c_44 => ?_) (fun c_44 => ?_)
          · skip
            refine r_iconst cd_M_hands_51 ?_
            refine r_istore13_5 cd_M_hands_52 rfl ?_
            exact e9
          · skip
            (rw [e1] at c_44; omega)
theorem lp_M_ini {row n y3 b' y5 : Int} {rt : Option MV} : ∀ (f : Nat) (j : Int) (g : List Int), 0 ≤ j → j + f = 16 → g.length = 16 → (∀ q : Int, 0 ≤ q → q < j → at_ g q = if q = 0 then 0 else 1000000) → (∀ (g' : List Int) (j' : Int), g'.length = 16 → (∀ q : Int, 0 ≤ q → q < 16 → at_ g' q = if q = 0 then 0 else 1000000) → EH xs 128 [vR 40, vI row, vI n, vI y3, vI b', vI y5, vI j', vU, vU, vU, vU, vU, vU] c mn mc sm om ga mr ma ax b v sv dv fa wy im kp g' ng rt) → EH xs 97 [vR 40, vI row, vI n, vI y3, vI b', vI y5, vI j, vU, vU, vU, vU, vU, vU] c mn mc sm om ga mr ma ax b v sv dv fa wy im kp g ng rt := by
  intro f
  induction f with
  | zero =>
    intro j g j0 j1 hl hq e
    obtain ⟨gr', ng', hh, h2⟩ := e g j hl (fun q q0 q1 => hq q q0 (by omega))
    refine ⟨gr', ng', hh, ?_⟩
    refine r_iload cd_M_hands_97 rfl ?_
    refine r_bipush cd_M_hands_99 ?_
    refine r_icmp_ge cd_M_hands_101 ⟨by omega, by omega⟩ ⟨by decide, by decide⟩ (fun c_101 => ?_) (fun c_101 => ?_)
    · skip
      exact h2
    · skip
      omega
  | succ f ih =>
    intro j g j0 j1 hl hq e
    have hgl : ((g.length : Nat) : Int) = 16 := by rw [hl]; rfl
    have t121 : ∀ x : Int, (x = if j = 0 then 0 else 1000000) → ∃ gr' ng' : List Int, (gr'.length = 16 ∧ ng'.length = 16) ∧ Rn xs m_M_hands 97 [vR 40, vI row, vI n, vI y3, vI b', vI y5, vI (j + 1), vU, vU, vU, vU, vU, vU] [] (z40 c (rf mn mc sm om ga mr ma ax b v sv dv fa (g.set j.toNat x) ng wy im kp)) rt (z40 c (rf mn mc sm om ga mr ma ax b v sv dv fa gr' ng' wy im kp)) := by
      intro x hx
      exact ih (j + 1) (g.set j.toNat x) (by omega) (by omega) (by rw [List.length_set]; exact hl) (fun q q0 q1 => by
        rw [az_set j0 (by omega) q0]
        split
        · next y => rw [hx, y]
        · exact hq q q0 (by omega)) e
    have t0 := t121 0
    have t1 := t121 1000000
    by_cases y : j = 0
    · obtain ⟨gr', ng', hh, e9⟩ := t0 (by rw [if_pos y])
      refine ⟨gr', ng', hh, ?_⟩
      refine r_iload cd_M_hands_97 rfl ?_
      refine r_bipush cd_M_hands_99 ?_
      refine r_icmp_ge cd_M_hands_101 ⟨by omega, by omega⟩ ⟨by decide, by decide⟩ (fun c_101 => ?_) (fun c_101 => ?_)
      · skip
        omega
      · skip
        refine r_aload_n cd_M_hands_104 rfl ?_
        refine r_getfield cd_M_hands_105 zr_O rfl ?_
        refine r_iload cd_M_hands_108 rfl ?_
        refine r_iload cd_M_hands_110 rfl ?_
        refine r_if_ne cd_M_hands_112 ⟨by omega, by omega⟩ (fun c_112 => ?_) (fun c_112 => ?_)
        · skip
          omega
        · skip
          refine r_iconst cd_M_hands_115 ?_
          refine r_goto cd_M_hands_116 ?_
          refine r_iastore (N := 16) cd_M_hands_121 zr_G hgl (by omega) (by omega) (by omega) ?_
          refine r_iinc13_6 cd_M_hands_122 rfl ?_
          refine r_goto cd_M_hands_125 ?_
          exact e9
    · obtain ⟨gr', ng', hh, e9⟩ := t1 (by rw [if_neg y])
      refine ⟨gr', ng', hh, ?_⟩
      refine r_iload cd_M_hands_97 rfl ?_
      refine r_bipush cd_M_hands_99 ?_
      refine r_icmp_ge cd_M_hands_101 ⟨by omega, by omega⟩ ⟨by decide, by decide⟩ (fun c_101 => ?_) (fun c_101 => ?_)
      · skip
        omega
      · skip
        refine r_aload_n cd_M_hands_104 rfl ?_
        refine r_getfield cd_M_hands_105 zr_O rfl ?_
        refine r_iload cd_M_hands_108 rfl ?_
        refine r_iload cd_M_hands_110 rfl ?_
        refine r_if_ne cd_M_hands_112 ⟨by omega, by omega⟩ (fun c_112 => ?_) (fun c_112 => ?_)
        · skip
          refine r_ldc cd_M_hands_119 ?_
          refine r_iastore (N := 16) cd_M_hands_121 zr_G hgl (by omega) (by omega) (by omega) ?_
          refine r_iinc13_6 cd_M_hands_122 rfl ?_
          refine r_goto cd_M_hands_125 ?_
          exact e9
        · skip
          omega
theorem hm_bd {row n : Int} : ∀ (k : Nat) (i : Int) (d W : Nat) (m : Int), m ≤ hmA row n k i d W m ∧ hmA row n k i d W m ≤ m + k
  | 0, i, d, W, m => by unfold hmA; omega
  | k + 1, i, d, W, m => by
    have s1 := stM_1 d W (nd row n i).toNat
    have := hm_bd (row := row) (n := n) k (i + 1) (nd row n i).toNat (stW d W (nd row n i).toNat) (m + stM d W (nd row n i).toNat)
    unfold hmA
    omega
theorem sp_M_hands {row n : Int} (hJ : JL v fa gr ng wy) (hr : inR row) (hn : inR n) : ∃ gr' ng' : List Int, (gr'.length = 16 ∧ ng'.length = 16) ∧ Sp xs m_M_hands [vR 40, vI row, vI n] (z40 c (rf mn mc sm om ga mr ma ax b v sv dv fa gr ng wy im kp)) (some (vI (hanR row n))) (z40 c (rf mn mc sm om ga mr ma ax b v sv dv fa gr' ng' wy im kp)) := by
  obtain ⟨r1, r2⟩ := id hr
  have hJg : gr.length = 16 ∧ ng.length = 16 := ⟨hJ.2.2.1, hJ.2.2.2.1⟩
  by_cases z0 : (1 ≤ n ∧ n ≤ 9) ∧ 0 ≤ row
  · obtain ⟨⟨zn0, zn1⟩, zr⟩ := z0
    have hdn := drp_nn n.toNat row zr
    have hdle : drp n.toNat row ≤ row := by rw [drp_div]; exact Int.ediv_le_self _ zr
    have hiw := iw_gd n.toNat row
    have t82 : ∀ i' : Int, EH xs 82 [vR 40, vI row, vI n, vI (drp n.toNat row), vI (10 ^ (n - 1).toNat : Nat), vI (if (1 : Int) = 1 ∧ gdA n.toNat row = true then 1 else 0), vI i', vU, vU, vU, vU, vU, vU] c mn mc sm om ga mr ma ax b v sv dv fa wy im kp gr ng (some (vI (hanR row n))) := by
      intro i'
      by_cases w : iwA n.toNat row = true
      · have w2 := w
        rw [hiw, Bool.and_eq_true, decide_eq_true_iff] at w2
        rw [if_pos ⟨rfl, w2.1⟩, w2.2]
        have hdg : ∀ i : Int, 0 ≤ i → i < n → nd row n i < 4 := fun i i0 i1 => iw_dig n.toNat row w _ (by omega)
        have hans : hanR row n = hmA row n n.toNat 0 4 0 0 := by
          unfold hanR
          rw [if_pos ⟨⟨zn0, zn1⟩, zr, w⟩]
          exact fw_hm zr hdg n.toNat 0 0 4 0 0 (by omega) (by omega) (by omega) (by omega) (by decide) (Or.inl ⟨rfl, rfl, rfl⟩)
        have hmb := hm_bd (row := row) (n := n) n.toNat 0 4 0 0
        rw [hans]
        obtain ⟨gr', ng', hh, e9⟩ := lp_M_ini (xs := xs) (c := c) (mn := mn) (mc := mc) (sm := sm) (om := om) (ga := ga) (mr := mr) (ma := ma) (ax := ax) (b := b) (v := v) (sv := sv) (dv := dv) (fa := fa) (ng := ng) (wy := wy) (im := im) (kp := kp) (row := row) (n := n) (y3 := 0) (b' := (10 ^ (n - 1).toNat : Nat)) (y5 := 1) (rt := some (vI (hmA row n n.toNat 0 4 0 0))) 16 0 gr (by omega) (by omega) hJg.1 (fun q q0 q1 => by omega) (fun g' j' hl' hf => by
          have hD0 : DInv g' 4 0 0 := ⟨hl', fun s hs => by
            have := hf s (by omega) (by omega)
            by_cases y : s = 0
            · subst y
              rw [if_pos (by rfl)] at this
              exact ⟨by rw [this]; decide, fun _ => this⟩
            · rw [if_neg (by omega)] at this
              have c5 : cls 4 0 s = 5 := by unfold cls; rw [show Nat.beq 4 4 = true by rfl, nbeq_f y]; rfl
              exact ⟨by rw [this, c5]; decide, fun h => by omega⟩⟩
          have hB0 : BD g' := fun j j0 j1 => by rw [hf j j0 j1]; split <;> omega
          obtain ⟨gr', ng', hh, e9⟩ := lp_M_req (xs := xs) (c := c) (mn := mn) (mc := mc) (sm := sm) (om := om) (ga := ga) (mr := mr) (ma := ma) (ax := ax) (b := b) (v := v) (sv := sv) (dv := dv) (fa := fa) (wy := wy) (im := im) (kp := kp) (y3 := 0) (y5 := 1) (rt := some (vI (hmA row n n.toNat 0 4 0 0))) zr r2 zn1 hdg n.toNat 0 (10 ^ (n - 1).toNat : Nat) 4 0 0 g' ng vU vU vU vU vU vU (by omega) (by omega) (fun _ => by rw [Int.sub_zero]) (by omega) (by omega) (by decide) (by omega) (by omega) hD0 hB0 hJg.2 (fun g2 l2 i2 b2 d2 W2 m2 z7 z8 z9 z10 z11 z12 hm2 hd2 hW2 hv2 m20 m21 hD2 hB2 hl2 => by
            have e9 := lp_M_least (xs := xs) (c := c) (mn := mn) (mc := mc) (sm := sm) (om := om) (ga := ga) (mr := mr) (ma := ma) (ax := ax) (b := b) (v := v) (sv := sv) (dv := dv) (fa := fa) (ng := l2) (wy := wy) (im := im) (kp := kp) (row := row) (n := n) (y3 := 0) (b' := b2) (y5 := 1) (x8 := z8) (x9 := z9) (x10 := z10) (x11 := z11) (x12 := z12) hd2 hv2 (by omega) hD2 hB2 16 0 1000000 (by omega) (by omega) (by omega) (by omega) (fun q q0 q1 => by omega)
            refine ⟨g2, l2, ⟨hD2.1, hl2⟩, ?_⟩
            rw [← hm2]
            refine r_ldc cd_M_hands_333 ?_
            refine r_istore13_6 cd_M_hands_335 rfl ?_
            refine r_iconst cd_M_hands_337 ?_
            refine r_istore13_7 cd_M_hands_338 rfl ?_
            exact e9
            )
          refine ⟨gr', ng', hh, ?_⟩
          refine r_iconst cd_M_hands_128 ?_
          refine r_istore13_6 cd_M_hands_129 rfl ?_
          exact e9
          )
        refine ⟨gr', ng', hh, ?_⟩
        refine r_iload cd_M_hands_82 rfl ?_
        refine r_if_eq cd_M_hands_84 ⟨by decide, by decide⟩ (fun c_84 => absurd c_84 (by decide)) (fun _ => ?_)
        refine r_iload_n cd_M_hands_87 rfl ?_
        refine r_if_le cd_M_hands_88 ⟨by decide, by decide⟩ (fun _ => ?_) (fun c_88 => absurd c_88 (by decide))
        refine r_iconst cd_M_hands_94 ?_
        refine r_istore13_6 cd_M_hands_95 rfl ?_
        exact e9
      · have hans : hanR row n = -2 := by
          unfold hanR
          rw [if_neg (fun y => w y.2.2)]
        rw [hans]
        refine ⟨gr, ng, hJg, ?_⟩
        have w2 : ¬ (gdA n.toNat row = true ∧ drp n.toNat row = 0) := by
          intro y
          rw [hiw, Bool.and_eq_true, decide_eq_true_iff] at w
          exact w y
        by_cases y : gdA n.toNat row = true
        · rw [if_pos ⟨rfl, y⟩]
          have : drp n.toNat row ≠ 0 := fun u => w2 ⟨y, u⟩
          refine r_iload cd_M_hands_82 rfl ?_
          refine r_if_eq cd_M_hands_84 ⟨by decide, by decide⟩ (fun c_84 => absurd c_84 (by decide)) (fun _ => ?_)
          refine r_iload_n cd_M_hands_87 rfl ?_
          refine r_if_le cd_M_hands_88 ⟨by omega, by omega⟩ (fun c_88 => ?_) (fun c_88 => ?_)
          · skip
            omega
          · skip
            refine r_bipush cd_M_hands_91 ?_
            exact r_iret cd_M_hands_93 rt_M_hands (by rfl) (by rfl)
        · rw [if_neg (fun u => y u.2)]
          refine r_iload cd_M_hands_82 rfl ?_
          refine r_if_eq cd_M_hands_84 ⟨by decide, by decide⟩ (fun _ => ?_) (fun c_84 => absurd c_84 (by decide))
          refine r_bipush cd_M_hands_91 ?_
          exact r_iret cd_M_hands_93 rt_M_hands (by rfl) (by rfl)
    obtain ⟨gr', ng', hh, e9⟩ := lp_M_row (xs := xs) (c := c) (mn := mn) (mc := mc) (sm := sm) (om := om) (ga := ga) (mr := mr) (ma := ma) (ax := ax) (b := b) (v := v) (sv := sv) (dv := dv) (fa := fa) (gr := gr) (ng := ng) (wy := wy) (im := im) (kp := kp) (row := row) (n := n) (rt := some (vI (hanR row n))) zn1 n.toNat 0 row 1 1 (by omega) (by omega) zr r2 (Or.inr rfl) rfl t82
    refine ⟨gr', ng', hh, ?_⟩
    refine en_M_hands ?_
    refine r_iload_n cd_M_hands_0 rfl ?_
    refine r_iconst cd_M_hands_1 ?_
    refine r_bipush cd_M_hands_2 ?_
    refine r_cv3 cd_M_hands_4 rfl ck_M_hands_M_in rfl (Nat.le_of_ble_eq_true rfl) (sp_M_in hn ⟨by decide, by decide⟩ ⟨by decide, by decide⟩) ?_
    refine r_ifeq_p cd_M_hands_7 (fun c_7 => ?_) (fun c_7 => ?_)
    · skip
      omega
    · skip
      refine r_iload_n cd_M_hands_10 rfl ?_
      refine r_if_ge cd_M_hands_11 ⟨by omega, by omega⟩ (fun c_11 => ?_) (fun c_11 => ?_)
      · skip
        refine r_iload_n cd_M_hands_17 rfl ?_
        refine r_istoren13_3 cd_M_hands_18 rfl ?_
        refine r_iconst cd_M_hands_19 ?_
        refine r_istore13_4 cd_M_hands_20 rfl ?_
        refine r_iconst cd_M_hands_22 ?_
        refine r_istore13_5 cd_M_hands_23 rfl ?_
        refine r_iconst cd_M_hands_25 ?_
        refine r_istore13_6 cd_M_hands_26 rfl ?_
        exact e9
      · skip
        omega
  · have hans : hanR row n = -2 := by
      unfold hanR
      rw [if_neg (fun y => z0 ⟨y.1, y.2.1⟩)]
    rw [hans]
    refine ⟨gr, ng, hJg, ?_⟩
    refine en_M_hands ?_
    refine r_iload_n cd_M_hands_0 rfl ?_
    refine r_iconst cd_M_hands_1 ?_
    refine r_bipush cd_M_hands_2 ?_
    refine r_cv3 cd_M_hands_4 rfl ck_M_hands_M_in rfl (Nat.le_of_ble_eq_true rfl) (sp_M_in hn ⟨by decide, by decide⟩ ⟨by decide, by decide⟩) ?_
    refine r_ifeq_p cd_M_hands_7 (fun c_7 => ?_) (fun c_7 => ?_)
    · skip
      refine r_bipush cd_M_hands_14 ?_
      exact r_iret cd_M_hands_16 rt_M_hands (by rfl) (by rfl)
    · skip
      refine r_iload_n cd_M_hands_10 rfl ?_
      refine r_if_ge cd_M_hands_11 ⟨by omega, by omega⟩ (fun c_11 => ?_) (fun c_11 => ?_)
      · skip
        omega
      · skip
        refine r_bipush cd_M_hands_14 ?_
        exact r_iret cd_M_hands_16 rt_M_hands (by rfl) (by rfl)
end C80
