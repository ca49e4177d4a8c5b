-- the reference: years
section C73
variable {xs : List Int} {c : Nat → HC} {mn mc sm om ga mr ma ax : Int} {b v sv dv fa gr ng wy im kp : List Int}
theorem dr_act (v : List Int) (x k n : Int) (hk : dkind v x = k) (hn : dnum k (x / 64) = n) : drawn v x = act v k (x % 8) n := by
  subst hk
  subst hn
  rfl
theorem lp_M_year {seed m what : Int} (hm1 : m ≤ 99) (hx0 : 0 ≤ what) (hx1 : what ≤ 2) : ∀ (k : Nat) (i x sm om mr : Int) (v : List Int) (x6 x7 : MV), 0 ≤ i → i + k = m → 0 ≤ x → x < 65537 → WF v → ∃ sm' om' mr', Rn xs m_M_year 43 [vR 40, vI seed, vI m, vI what, vI x, vI i, x6, x7] [] (z40 c (rf mn mc sm om ga mr ma ax b v sv dv fa gr ng wy im kp)) (some (vI (yrV (yrA k x v) what))) (z40 c (rf mn mc sm' om' ga mr' ma ax b (yrA k x v) sv dv fa gr ng wy im kp)) := by
  intro k
  induction k with
  | zero =>
    intro i x sm om mr v x6 x7 i0 j1 x0 x1 hw
    have g5 := hw.2.2.2.2.1
    have g6 := hw.2.2.2.2.2.1
    refine ⟨sm, om, mr, ?_⟩
    unfold yrA
    refine r_iload cd_M_year_43 rfl ?_
    refine r_iload_n cd_M_year_45 rfl ?_
    refine r_icmp_ge cd_M_year_46 ⟨by omega, by omega⟩ ⟨by omega, by omega⟩ (fun c_46 => ?_) (fun c_46 => ?_)
    · skip
      refine r_iload_n cd_M_year_278 rfl ?_
      refine r_if_ne cd_M_year_279 ⟨by omega, by omega⟩ (fun c_279 => ?_) (fun c_279 => ?_)
      · skip
        refine r_iload_n cd_M_year_300 rfl ?_
        refine r_iconst cd_M_year_301 ?_
        refine r_icmp_ne cd_M_year_302 ⟨by omega, by omega⟩ ⟨by decide, by decide⟩ (fun c_302 => ?_) (fun c_302 => ?_)
        · skip
          refine r_aload_n cd_M_year_315 rfl ?_
          refine r_getfield cd_M_year_316 zr_O rfl ?_
          refine r_bipush cd_M_year_319 ?_
          refine r_iaload (N := 21) cd_M_year_321 zr_N (wlen hw) (by omega) (by omega) (by omega) ?_
          exact r_iret cd_M_year_322 rt_M_year (by (unfold yrV; first | (rw [if_pos (by omega)]; done) | (rw [if_neg (by omega), if_pos (by omega)]; done) | (rw [if_neg (by omega), if_neg (by omega)]; done))) (by rfl)
        · skip
          refine r_aload_n cd_M_year_305 rfl ?_
          refine r_getfield cd_M_year_306 zr_O rfl ?_
          refine r_bipush cd_M_year_309 ?_
          refine r_iaload (N := 21) cd_M_year_311 zr_N (wlen hw) (by omega) (by omega) (by omega) ?_
          refine r_goto cd_M_year_312 ?_
          exact r_iret cd_M_year_322 rt_M_year (by (unfold yrV; first | (rw [if_pos (by omega)]; done) | (rw [if_neg (by omega), if_pos (by omega)]; done) | (rw [if_neg (by omega), if_neg (by omega)]; done))) (by rfl)
      · skip
        refine r_aload_n cd_M_year_282 rfl ?_
        refine r_getfield cd_M_year_283 zr_O rfl ?_
        refine r_bipush cd_M_year_286 ?_
        refine r_iaload (N := 21) cd_M_year_288 zr_N (wlen hw) (by omega) (by omega) (by omega) ?_
        refine r_aload_n cd_M_year_289 rfl ?_
        refine r_getfield cd_M_year_290 zr_O rfl ?_
        refine r_bipush cd_M_year_293 ?_
        refine r_iaload (N := 21) cd_M_year_295 zr_N (wlen hw) (by omega) (by omega) (by omega) ?_
        refine r_iadd cd_M_year_296 ?_
        refine r_goto cd_M_year_297 ?_
        exact r_iret cd_M_year_322 rt_M_year (by (unfold yrV; first | (rw [if_pos (by omega)]; done) | (rw [if_neg (by omega), if_pos (by omega)]; done) | (rw [if_neg (by omega), if_neg (by omega)]; done))) (by rfl)
    · skip
      omega
  | succ k ih =>
    intro i x sm om mr v x6 x7 i0 j1 x0 x1 hw
    have hb := yrX_bd (x := x)
    have e1 : (75 * x + 74).tmod 65537 = yrX x := Int.tmod_eq_emod_of_nonneg (by omega)
    have hwd := wf_drawn hw hb.1
    have ey : yrA (k + 1) x v = yrA k (yrX x) (drawn v (yrX x)) := rfl
    rw [ey]
    have IH := fun (sm om mr : Int) => ih (i + 1) (yrX x) sm om mr (drawn v (yrX x)) (vI (yrX x % 8)) (vI (yrX x / 64)) (by omega) (by omega) hb.1 hb.2 hwd
    have hbl := hw.2.2.2.1
    have dk : ∀ K : Int, yrX x / 8 % 8 = K → K ≠ 7 → dkind v (yrX x) = K := by
      intro K h1 h2
      unfold dkind
      rw [if_neg (by omega)]
      exact h1
    have t9 : (yrX x / 64).tmod 9 = yrX x / 64 % 9 := Int.tmod_eq_emod_of_nonneg (by omega)
    have t5 : (yrX x / 64).tmod 5 = yrX x / 64 % 5 := Int.tmod_eq_emod_of_nonneg (by omega)
    have t19 : (yrX x / 64).tmod 19 = yrX x / 64 % 19 := Int.tmod_eq_emod_of_nonneg (by omega)
    have t84 : ∃ sm' om' mr', Rn xs m_M_year 84 [vR 40, vI seed, vI m, vI what, vI (yrX x), vI i, vI (yrX x % 8), vI (yrX x / 64)] [vI (yrX x / 8 % 8)] (z40 c (rf mn mc sm om ga mr ma ax b v sv dv fa gr ng wy im kp)) (some (vI (yrV (yrA k (yrX x) (drawn v (yrX x))) what))) (z40 c (rf mn mc sm' om' ga mr' ma ax b (yrA k (yrX x) (drawn v (yrX x))) sv dv fa gr ng wy im kp)) := by
      generalize hy : yrX x = y at *
      have hK : y / 8 % 8 = 0 ∨ y / 8 % 8 = 1 ∨ y / 8 % 8 = 2 ∨ y / 8 % 8 = 3 ∨ y / 8 % 8 = 4 ∨ y / 8 % 8 = 5 ∨ y / 8 % 8 = 6 ∨ y / 8 % 8 = 7 := by omega
      have r0 : 0 ≤ y % 8 ∧ y % 8 < 8 := by omega
      rcases hK with h | h | h | h | h | h | h | h
      · have hd := dr_act v y 0 0 (dk 0 h (by decide)) rfl
        have hS : Sp xs m_M_grasp [vR 40, vI (y % 8)] (z40 c (rf mn mc sm om ga mr ma ax b v sv dv fa gr ng wy im kp)) (some (vI (why v 0 (y % 8) 0))) (z40 c (rf mn mc sm om ga mr ma ax b (act v 0 (y % 8) 0) sv dv fa gr ng wy im kp)) := sp_M_grasp zr_O zr_N hw r0.1 r0.2
        obtain ⟨sm', om', mr', e9⟩ := IH sm om (why v 0 (y % 8) 0)
        refine ⟨sm', om', mr', ?_⟩
        rw [h]
        rw [hd] at e9 ⊢
        refine r_switch (t := 128) cd_M_year_84 ⟨by decide, by decide⟩ (by decide) ?_
        refine r_aload_n cd_M_year_128 rfl ?_
        refine r_aload_n cd_M_year_129 rfl ?_
        refine r_iload cd_M_year_130 rfl ?_
        refine r_vv1 cd_M_year_132 rfl ck_M_year_M_grasp (Nat.le_of_ble_eq_true rfl) zr_O rfl hS ?_
        refine r_putfield cd_M_year_135 zr_O (Nat.le_of_ble_eq_true rfl) rfl ?_
        refine r_goto cd_M_year_138 ?_
        refine r_iinc8_5 cd_M_year_272 rfl ?_
        refine r_goto cd_M_year_275 ?_
        exact e9
      · have hd := dr_act v y 1 0 (dk 1 h (by decide)) rfl
        have hS : Sp xs m_M_letGo [vR 40, vI (y % 8)] (z40 c (rf mn mc sm om ga mr ma ax b v sv dv fa gr ng wy im kp)) (some (vI (why v 1 (y % 8) 0))) (z40 c (rf mn mc sm om ga mr ma ax b (act v 1 (y % 8) 0) sv dv fa gr ng wy im kp)) := sp_M_letGo zr_O zr_N hw r0.1 r0.2
        obtain ⟨sm', om', mr', e9⟩ := IH sm om (why v 1 (y % 8) 0)
        refine ⟨sm', om', mr', ?_⟩
        rw [h]
        rw [hd] at e9 ⊢
        refine r_switch (t := 141) cd_M_year_84 ⟨by decide, by decide⟩ (by decide) ?_
        refine r_aload_n cd_M_year_141 rfl ?_
        refine r_aload_n cd_M_year_142 rfl ?_
        refine r_iload cd_M_year_143 rfl ?_
        refine r_vv1 cd_M_year_145 rfl ck_M_year_M_letGo (Nat.le_of_ble_eq_true rfl) zr_O rfl hS ?_
        refine r_putfield cd_M_year_148 zr_O (Nat.le_of_ble_eq_true rfl) rfl ?_
        refine r_goto cd_M_year_151 ?_
        refine r_iinc8_5 cd_M_year_272 rfl ?_
        refine r_goto cd_M_year_275 ?_
        exact e9
      · have hd := dr_act v y 2 (1 + y / 64 % 9) (dk 2 h (by decide)) rfl
        have hS : Sp xs m_M_slideBy [vR 40, vI (y % 8), vI (-1 - y / 64 % 9)] (z40 c (rf mn mc sm om ga mr ma ax b v sv dv fa gr ng wy im kp)) (some (vI (why v 2 (y % 8) (1 + y / 64 % 9)))) (z40 c (rf mn mc sm om ga mr ma ax b (act v 2 (y % 8) (1 + y / 64 % 9)) sv dv fa gr ng wy im kp)) := sp_M_slideBy zr_O zr_N hw r0.1 r0.2 (by omega) (by omega) (Or.inl ⟨rfl, by omega⟩)
        obtain ⟨sm', om', mr', e9⟩ := IH sm om (why v 2 (y % 8) (1 + y / 64 % 9))
        refine ⟨sm', om', mr', ?_⟩
        rw [h]
        rw [hd] at e9 ⊢
        refine r_switch (t := 154) cd_M_year_84 ⟨by decide, by decide⟩ (by decide) ?_
        refine r_aload_n cd_M_year_154 rfl ?_
        refine r_aload_n cd_M_year_155 rfl ?_
        refine r_iload cd_M_year_156 rfl ?_
        refine r_iconst cd_M_year_158 ?_
        refine r_iload cd_M_year_159 rfl ?_
        refine r_bipush cd_M_year_161 ?_
        refine r_irem cd_M_year_163 ⟨by omega, by omega⟩ ⟨by decide, by decide⟩ (by decide) ?_
        refine r_isub cd_M_year_164 ?_
        refine r_vv2 cd_M_year_165 rfl ck_M_year_M_slideBy (Nat.le_of_ble_eq_true rfl) zr_O rfl (by rw [t9]; exact hS) ?_
        refine r_putfield cd_M_year_168 zr_O (Nat.le_of_ble_eq_true rfl) rfl ?_
        refine r_goto cd_M_year_171 ?_
        refine r_iinc8_5 cd_M_year_272 rfl ?_
        refine r_goto cd_M_year_275 ?_
        exact e9
      · have hd := dr_act v y 3 (1 + y / 64 % 9) (dk 3 h (by decide)) rfl
        have hS : Sp xs m_M_slideBy [vR 40, vI (y % 8), vI (1 + y / 64 % 9)] (z40 c (rf mn mc sm om ga mr ma ax b v sv dv fa gr ng wy im kp)) (some (vI (why v 3 (y % 8) (1 + y / 64 % 9)))) (z40 c (rf mn mc sm om ga mr ma ax b (act v 3 (y % 8) (1 + y / 64 % 9)) sv dv fa gr ng wy im kp)) := sp_M_slideBy zr_O zr_N hw r0.1 r0.2 (by omega) (by omega) (Or.inr ⟨rfl, rfl⟩)
        obtain ⟨sm', om', mr', e9⟩ := IH sm om (why v 3 (y % 8) (1 + y / 64 % 9))
        refine ⟨sm', om', mr', ?_⟩
        rw [h]
        rw [hd] at e9 ⊢
        refine r_switch (t := 174) cd_M_year_84 ⟨by decide, by decide⟩ (by decide) ?_
        refine r_aload_n cd_M_year_174 rfl ?_
        refine r_aload_n cd_M_year_175 rfl ?_
        refine r_iload cd_M_year_176 rfl ?_
        refine r_iconst cd_M_year_178 ?_
        refine r_iload cd_M_year_179 rfl ?_
        refine r_bipush cd_M_year_181 ?_
        refine r_irem cd_M_year_183 ⟨by omega, by omega⟩ ⟨by decide, by decide⟩ (by decide) ?_
        refine r_iadd cd_M_year_184 ?_
        refine r_vv2 cd_M_year_185 rfl ck_M_year_M_slideBy (Nat.le_of_ble_eq_true rfl) zr_O rfl (by rw [t9]; exact hS) ?_
        refine r_putfield cd_M_year_188 zr_O (Nat.le_of_ble_eq_true rfl) rfl ?_
        refine r_goto cd_M_year_191 ?_
        refine r_iinc8_5 cd_M_year_272 rfl ?_
        refine r_goto cd_M_year_275 ?_
        exact e9
      · have hd := dr_act v y 4 (y / 64 % 5) (dk 4 h (by decide)) rfl
        have hS : Sp xs m_M_passTo [vR 40, vI (y / 64 % 5)] (z40 c (rf mn mc sm om ga mr ma ax b v sv dv fa gr ng wy im kp)) (some (vI (why v 4 (y % 8) (y / 64 % 5)))) (z40 c (rf mn mc sm om ga mr ma ax b (act v 4 (y % 8) (y / 64 % 5)) sv dv fa gr ng wy im kp)) := sp_M_passTo zr_O zr_N hw (by omega) (by omega)
        obtain ⟨sm', om', mr', e9⟩ := IH sm om (why v 4 (y % 8) (y / 64 % 5))
        refine ⟨sm', om', mr', ?_⟩
        rw [h]
        rw [hd] at e9 ⊢
        refine r_switch (t := 194) cd_M_year_84 ⟨by decide, by decide⟩ (by decide) ?_
        refine r_aload_n cd_M_year_194 rfl ?_
        refine r_aload_n cd_M_year_195 rfl ?_
        refine r_iload cd_M_year_196 rfl ?_
        refine r_iconst cd_M_year_198 ?_
        refine r_irem cd_M_year_199 ⟨by omega, by omega⟩ ⟨by decide, by decide⟩ (by decide) ?_
        refine r_vv1 cd_M_year_200 rfl ck_M_year_M_passTo (Nat.le_of_ble_eq_true rfl) zr_O rfl (by rw [t5]; exact hS) ?_
        refine r_putfield cd_M_year_203 zr_O (Nat.le_of_ble_eq_true rfl) rfl ?_
        refine r_goto cd_M_year_206 ?_
        refine r_iinc8_5 cd_M_year_272 rfl ?_
        refine r_goto cd_M_year_275 ?_
        exact e9
      · have hd := dr_act v y 5 0 (dk 5 h (by decide)) rfl
        obtain ⟨om1, hS1⟩ := sp_M_passOver (xs := xs) (n := 0) (zr_O (c := c) (mn := mn) (mc := mc) (sm := sm) (om := om) (ga := ga) (mr := mr) (ma := ma) (ax := ax) (b := b) (v := v) (sv := sv) (dv := dv) (fa := fa) (gr := gr) (ng := ng) (wy := wy) (im := im) (kp := kp)) zr_N hw r0.1 r0.2
        have hS : Sp xs m_M_passOver [vR 40, vI (y % 8)] (z40 c (rf mn mc sm om ga mr ma ax b v sv dv fa gr ng wy im kp)) (some (vI (why v 5 (y % 8) 0))) (z40 c (rf mn mc sm om1 ga mr ma ax b (act v 5 (y % 8) 0) sv dv fa gr ng wy im kp)) := hS1
        obtain ⟨sm', om', mr', e9⟩ := IH sm om1 (why v 5 (y % 8) 0)
        refine ⟨sm', om', mr', ?_⟩
        rw [h]
        rw [hd] at e9 ⊢
        refine r_switch (t := 209) cd_M_year_84 ⟨by decide, by decide⟩ (by decide) ?_
        refine r_aload_n cd_M_year_209 rfl ?_
        refine r_aload_n cd_M_year_210 rfl ?_
        refine r_iload cd_M_year_211 rfl ?_
        refine r_vv1 cd_M_year_213 rfl ck_M_year_M_passOver (Nat.le_of_ble_eq_true rfl) zr_O rfl hS ?_
        refine r_putfield cd_M_year_216 zr_O (Nat.le_of_ble_eq_true rfl) rfl ?_
        refine r_goto cd_M_year_219 ?_
        refine r_iinc8_5 cd_M_year_272 rfl ?_
        refine r_goto cd_M_year_275 ?_
        exact e9
      · have hd := dr_act v y 6 (y / 64 % 19 - 9) (dk 6 h (by decide)) rfl
        obtain ⟨sm1, hS1⟩ := sp_M_shoot (xs := xs) (r := y % 8) (d := y / 64 % 19 - 9) (zr_O (c := c) (mn := mn) (mc := mc) (sm := sm) (om := om) (ga := ga) (mr := mr) (ma := ma) (ax := ax) (b := b) (v := v) (sv := sv) (dv := dv) (fa := fa) (gr := gr) (ng := ng) (wy := wy) (im := im) (kp := kp)) zr_N hw (by omega) (by omega)
        have hS : Sp xs m_M_shoot [vR 40, vI (y / 64 % 19 - 9)] (z40 c (rf mn mc sm om ga mr ma ax b v sv dv fa gr ng wy im kp)) (some (vI (why v 6 (y % 8) (y / 64 % 19 - 9)))) (z40 c (rf mn mc sm1 om ga mr ma ax b (act v 6 (y % 8) (y / 64 % 19 - 9)) sv dv fa gr ng wy im kp)) := hS1
        obtain ⟨sm', om', mr', e9⟩ := IH sm1 om (why v 6 (y % 8) (y / 64 % 19 - 9))
        refine ⟨sm', om', mr', ?_⟩
        rw [h]
        rw [hd] at e9 ⊢
        refine r_switch (t := 222) cd_M_year_84 ⟨by decide, by decide⟩ (by decide) ?_
        refine r_aload_n cd_M_year_222 rfl ?_
        refine r_aload_n cd_M_year_223 rfl ?_
        refine r_iload cd_M_year_224 rfl ?_
        refine r_bipush cd_M_year_226 ?_
        refine r_irem cd_M_year_228 ⟨by omega, by omega⟩ ⟨by decide, by decide⟩ (by decide) ?_
        refine r_bipush cd_M_year_229 ?_
        refine r_isub cd_M_year_231 ?_
        refine r_vv1 cd_M_year_232 rfl ck_M_year_M_shoot (Nat.le_of_ble_eq_true rfl) zr_O rfl (by rw [t19]; exact hS) ?_
        refine r_putfield cd_M_year_235 zr_O (Nat.le_of_ble_eq_true rfl) rfl ?_
        refine r_goto cd_M_year_238 ?_
        refine r_iinc8_5 cd_M_year_272 rfl ?_
        refine r_goto cd_M_year_275 ?_
        exact e9
      · by_cases ha : at_ v 16 = -6
        · have hd := dr_act v y 7 (y / 64 % 5) (by unfold dkind; rw [if_neg (by omega)]; exact h) rfl
          have hS : Sp xs m_M_throwIn [vR 40, vI (y % 8), vI (y / 64 % 5)] (z40 c (rf mn mc sm om ga mr ma ax b v sv dv fa gr ng wy im kp)) (some (vI (why v 7 (y % 8) (y / 64 % 5)))) (z40 c (rf mn mc sm om ga mr ma ax b (act v 7 (y % 8) (y / 64 % 5)) sv dv fa gr ng wy im kp)) := sp_M_throwIn zr_O zr_N hw r0.1 r0.2 (by omega) (by omega)
          obtain ⟨sm', om', mr', e9⟩ := IH sm om (why v 7 (y % 8) (y / 64 % 5))
          refine ⟨sm', om', mr', ?_⟩
          rw [h]
          rw [hd] at e9 ⊢
          refine r_switch (t := 241) cd_M_year_84 ⟨by decide, by decide⟩ (by decide) ?_
          refine r_aload_n cd_M_year_241 rfl ?_
          refine r_aload_n cd_M_year_242 rfl ?_
          refine r_getfield cd_M_year_243 zr_O rfl ?_
          refine r_bipush cd_M_year_246 ?_
          refine r_iaload (N := 21) cd_M_year_248 zr_N (wlen hw) (by omega) (by omega) (by omega) ?_
          refine r_if_ge cd_M_year_249 ⟨by omega, by omega⟩ (fun c_249 => ?_) (fun c_249 => ?_)
          · skip
            omega
          · skip
            refine r_aload_n cd_M_year_252 rfl ?_
            refine r_iload cd_M_year_253 rfl ?_
            refine r_iload cd_M_year_255 rfl ?_
            refine r_iconst cd_M_year_257 ?_
            refine r_irem cd_M_year_258 ⟨by omega, by omega⟩ ⟨by decide, by decide⟩ (by decide) ?_
            refine r_vv2 cd_M_year_259 rfl ck_M_year_M_throwIn (Nat.le_of_ble_eq_true rfl) zr_O rfl (by rw [t5]; exact hS) ?_
            refine r_goto cd_M_year_262 ?_
            refine r_putfield cd_M_year_269 zr_O (Nat.le_of_ble_eq_true rfl) rfl ?_
            refine r_iinc8_5 cd_M_year_272 rfl ?_
            refine r_goto cd_M_year_275 ?_
            exact e9
        · have hd := dr_act v y 8 0 (by unfold dkind; rw [if_pos ⟨h, ha⟩]) rfl
          have hS : Sp xs m_M_endTenth [vR 40] (z40 c (rf mn mc sm om ga mr ma ax b v sv dv fa gr ng wy im kp)) (some (vI (why v 8 (y % 8) 0))) (z40 c (rf mn mc sm om ga mr ma ax b (act v 8 (y % 8) 0) sv dv fa gr ng wy im kp)) := sp_M_endTenth zr_O zr_N hw
          obtain ⟨sm', om', mr', e9⟩ := IH sm om (why v 8 (y % 8) 0)
          refine ⟨sm', om', mr', ?_⟩
          rw [h]
          rw [hd] at e9 ⊢
          refine r_switch (t := 241) cd_M_year_84 ⟨by decide, by decide⟩ (by decide) ?_
          refine r_aload_n cd_M_year_241 rfl ?_
          refine r_aload_n cd_M_year_242 rfl ?_
          refine r_getfield cd_M_year_243 zr_O rfl ?_
          refine r_bipush cd_M_year_246 ?_
          refine r_iaload (N := 21) cd_M_year_248 zr_N (wlen hw) (by omega) (by omega) (by omega) ?_
          refine r_if_ge cd_M_year_249 ⟨by omega, by omega⟩ (fun c_249 => ?_) (fun c_249 => ?_)
          · skip
            refine r_aload_n cd_M_year_265 rfl ?_
            refine r_vv0 cd_M_year_266 rfl ck_M_year_M_endTenth (Nat.le_of_ble_eq_true rfl) zr_O rfl hS ?_
            refine r_putfield cd_M_year_269 zr_O (Nat.le_of_ble_eq_true rfl) rfl ?_
            refine r_iinc8_5 cd_M_year_272 rfl ?_
            refine r_goto cd_M_year_275 ?_
            exact e9
          · skip
            omega
    obtain ⟨sm', om', mr', e84⟩ := t84
    refine ⟨sm', om', mr', ?_⟩
    have e2 : (yrX x).tmod 8 = yrX x % 8 := Int.tmod_eq_emod_of_nonneg hb.1
    have e3 : (yrX x).tdiv 64 = yrX x / 64 := Int.tdiv_eq_ediv_of_nonneg hb.1
    have e4 : (yrX x).tdiv 8 = yrX x / 8 := Int.tdiv_eq_ediv_of_nonneg hb.1
    have e5 : (yrX x / 8).tmod 8 = yrX x / 8 % 8 := Int.tmod_eq_emod_of_nonneg (by omega)
    have t62 : Rn xs m_M_year 62 [vR 40, vI seed, vI m, vI what, vI (yrX x), vI i, x6, x7] [] (z40 c (rf mn mc sm om ga mr ma ax b v sv dv fa gr ng wy im kp)) (some (vI (yrV (yrA k (yrX x) (drawn v (yrX x))) what))) (z40 c (rf mn mc sm' om' ga mr' ma ax b (yrA k (yrX x) (drawn v (yrX x))) sv dv fa gr ng wy im kp)) := by
      refine r_iload cd_M_year_62 rfl ?_
      refine r_bipush cd_M_year_64 ?_
      refine r_irem cd_M_year_66 ⟨by omega, by omega⟩ ⟨by decide, by decide⟩ (by decide) ?_
      refine r_istore8_6 cd_M_year_67 rfl ?_
      refine r_iload cd_M_year_69 rfl ?_
      refine r_bipush cd_M_year_71 ?_
      refine r_idiv cd_M_year_73 ⟨by omega, by omega⟩ ⟨by decide, by decide⟩ (by decide) ?_
      refine r_istore8_7 cd_M_year_74 rfl ?_
      refine r_iload cd_M_year_76 rfl ?_
      refine r_bipush cd_M_year_78 ?_
      refine r_idiv cd_M_year_80 ⟨by omega, by omega⟩ ⟨by decide, by decide⟩ (by decide) ?_
      refine r_bipush cd_M_year_81 ?_
      refine r_irem cd_M_year_83 ⟨by rw [e4]; omega, by rw [e4]; omega⟩ ⟨by decide, by decide⟩ (by decide) ?_
      (rw [e4, e5, e2, e3]; exact e84)
    refine r_iload cd_M_year_43 rfl ?_
    refine r_iload_n cd_M_year_45 rfl ?_
    refine r_icmp_ge cd_M_year_46 ⟨by omega, by omega⟩ ⟨by omega, by omega⟩ (fun c_46 => ?_) (fun c_46 => ?_)
    · skip
      omega
    · skip
      refine r_bipush cd_M_year_49 ?_
      refine r_iload cd_M_year_51 rfl ?_
      refine r_imul cd_M_year_53 ?_
      refine r_bipush cd_M_year_54 ?_
      refine r_iadd cd_M_year_56 ?_
      refine r_ldc cd_M_year_57 ?_
      refine r_irem cd_M_year_59 ⟨by omega, by omega⟩ ⟨by decide, by decide⟩ (by decide) ?_
      refine r_istore8_4 cd_M_year_60 rfl ?_
      (rw [e1]; exact t62)
theorem sp_M_year {seed m what : Int} (hJ : JL v fa gr ng wy) (hw : WF b) (h1 : inR seed) (h2 : inR m) (h3 : inR what) : MSp xs m_M_year [vR 40, vI seed, vI m, vI what] (z40 c (rf mn mc sm om ga mr ma ax b v sv dv fa gr ng wy im kp)) (vI (yeA b seed m what)) c mn mc b sv dv im kp := by
  by_cases z : (0 ≤ seed ∧ seed ≤ 9999) ∧ (1 ≤ m ∧ m ≤ 99) ∧ (0 ≤ what ∧ what ≤ 2)
  · obtain ⟨z1, z2, z3⟩ := id z
    obtain ⟨sm', om', mr', e9⟩ := lp_M_year (xs := xs) (c := c) (mn := mn) (mc := mc) (ga := -6) (ma := ma) (ax := ax) (b := b) (sv := sv) (dv := dv) (fa := fa) (gr := gr) (ng := ng) (wy := wy) (im := im) (kp := kp) (seed := seed) (m := m) (what := what) z2.2 z3.1 z3.2 m.toNat 0 seed sm om mr b vU vU (by omega) (by omega) z1.1 (by omega) hw
    refine ⟨(z40 c (rf mn mc sm' om' (-6) mr' ma ax b (yrA m.toNat seed b) sv dv fa gr ng wy im kp)), mj (jl_v hJ (wf_yrA _ _ _ hw).1), ?_⟩
    have sA : Sp xs m_M_asNow [vR 40] (z40 c (rf mn mc sm om ga mr ma ax b v sv dv fa gr ng wy im kp)) none (z40 c (rf mn mc sm om (-6) mr ma ax b b sv dv fa gr ng wy im kp)) := sp_asN hw.1 hJ.1
    unfold yeA
    rw [if_pos z]
    refine en_M_year ?_
    refine r_iload_n cd_M_year_0 rfl ?_
    refine r_iconst cd_M_year_1 ?_
    refine r_sipush cd_M_year_2 ?_
    refine r_cv3 cd_M_year_5 rfl ck_M_year_M_in rfl (Nat.le_of_ble_eq_true rfl) (sp_M_in h1 ⟨by decide, by decide⟩ ⟨by decide, by decide⟩) ?_
    refine r_ifeq_p cd_M_year_8 (fun c_8 => ?_) (fun c_8 => ?_)
    · skip
      first | exact absurd z1 c_8 | exact absurd z2 c_18 | exact absurd z3 c_27
    · skip
      refine r_iload_n cd_M_year_11 rfl ?_
      refine r_iconst cd_M_year_12 ?_
      refine r_bipush cd_M_year_13 ?_
      refine r_cv3 cd_M_year_15 rfl ck_M_year_M_in rfl (Nat.le_of_ble_eq_true rfl) (sp_M_in h2 ⟨by decide, by decide⟩ ⟨by decide, by decide⟩) ?_
      refine r_ifeq_p cd_M_year_18 (fun c_18 => ?_) (fun c_18 => ?_)
      · skip
        first | exact absurd z1 c_8 | exact absurd z2 c_18 | exact absurd z3 c_27
      · skip
        refine r_iload_n cd_M_year_21 rfl ?_
        refine r_iconst cd_M_year_22 ?_
        refine r_iconst cd_M_year_23 ?_
        refine r_cv3 cd_M_year_24 rfl ck_M_year_M_in rfl (Nat.le_of_ble_eq_true rfl) (sp_M_in h3 ⟨by decide, by decide⟩ ⟨by decide, by decide⟩) ?_
        refine r_ifne_p cd_M_year_27 (fun c_27 => ?_) (fun c_27 => ?_)
        · skip
          refine r_aload_n cd_M_year_33 rfl ?_
          refine r_vz0 cd_M_year_34 rfl ck_M_year_M_asNow (Nat.le_of_ble_eq_true rfl) zr_O rfl sA ?_
          refine r_iload_n cd_M_year_37 rfl ?_
          refine r_istore8_4 cd_M_year_38 rfl ?_
          refine r_iconst cd_M_year_40 ?_
          refine r_istore8_5 cd_M_year_41 rfl ?_
          exact e9
        · skip
          first | exact absurd z1 c_8 | exact absurd z2 c_18 | exact absurd z3 c_27
  · refine ⟨(z40 c (rf mn mc sm om ga mr ma ax b v sv dv fa gr ng wy im kp)), mj hJ, ?_⟩
    unfold yeA
    rw [if_neg z]
    refine en_M_year ?_
    refine r_iload_n cd_M_year_0 rfl ?_
    refine r_iconst cd_M_year_1 ?_
    refine r_sipush cd_M_year_2 ?_
    refine r_cv3 cd_M_year_5 rfl ck_M_year_M_in rfl (Nat.le_of_ble_eq_true rfl) (sp_M_in h1 ⟨by decide, by decide⟩ ⟨by decide, by decide⟩) ?_
    refine r_ifeq_p cd_M_year_8 (fun c_8 => ?_) (fun c_8 => ?_)
    · skip
      refine r_bipush cd_M_year_30 ?_
      exact r_iret cd_M_year_32 rt_M_year (by rfl) (by rfl)
    · skip
      refine r_iload_n cd_M_year_11 rfl ?_
      refine r_iconst cd_M_year_12 ?_
      refine r_bipush cd_M_year_13 ?_
      refine r_cv3 cd_M_year_15 rfl ck_M_year_M_in rfl (Nat.le_of_ble_eq_true rfl) (sp_M_in h2 ⟨by decide, by decide⟩ ⟨by decide, by decide⟩) ?_
      refine r_ifeq_p cd_M_year_18 (fun c_18 => ?_) (fun c_18 => ?_)
      · skip
        refine r_bipush cd_M_year_30 ?_
        exact r_iret cd_M_year_32 rt_M_year (by rfl) (by rfl)
      · skip
        refine r_iload_n cd_M_year_21 rfl ?_
        refine r_iconst cd_M_year_22 ?_
        refine r_iconst cd_M_year_23 ?_
        refine r_cv3 cd_M_year_24 rfl ck_M_year_M_in rfl (Nat.le_of_ble_eq_true rfl) (sp_M_in h3 ⟨by decide, by decide⟩ ⟨by decide, by decide⟩) ?_
        refine r_ifne_p cd_M_year_27 (fun c_27 => ?_) (fun c_27 => ?_)
        · skip
          exact absurd ⟨c_8, c_18, c_27⟩ z
        · skip
          refine r_bipush cd_M_year_30 ?_
          exact r_iret cd_M_year_32 rt_M_year (by rfl) (by rfl)
end C73
