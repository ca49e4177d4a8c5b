-- the reference's steps over the signs
section C59
variable {xs : List Int} {h : MH}
def stF (st s : Int) : Int :=
  if st = 0 then (if 97 ≤ s ∧ s ≤ 104 then 1 else if s = 112 then 3 else if s = 80 then 4 else if s = 115 then 5 else if s = 33 then 7 else if s = 46 then 0 else -6)
  else if st = 1 then (if s = 40 ∨ s = 41 then 0 else if s = 60 ∨ s = 62 then 2 else -6)
  else if st = 2 then (if 49 ≤ s ∧ s ≤ 57 then 0 else -6)
  else if st = 3 then (if 48 ≤ s ∧ s ≤ 52 then 0 else -6)
  else if st = 4 then (if 97 ≤ s ∧ s ≤ 104 then 0 else -6)
  else if st = 5 then (if s = 60 ∨ s = 62 then 6 else -6)
  else if st = 6 then (if 48 ≤ s ∧ s ≤ 57 then 0 else -6)
  else (if 97 ≤ s ∧ s ≤ 104 then 3 else -6)
theorem stF_0 (s : Int) : stF 0 s = (if 97 ≤ s ∧ s ≤ 104 then 1 else if s = 112 then 3 else if s = 80 then 4 else if s = 115 then 5 else if s = 33 then 7 else if s = 46 then 0 else -6) := by
  unfold stF
  rw [if_pos rfl]
theorem stF_1 (s : Int) : stF 1 s = (if s = 40 ∨ s = 41 then 0 else if s = 60 ∨ s = 62 then 2 else -6) := by
  unfold stF
  rw [if_neg (by decide), if_pos rfl]
theorem stF_2 (s : Int) : stF 2 s = (if 49 ≤ s ∧ s ≤ 57 then 0 else -6) := by
  unfold stF
  rw [if_neg (by decide), if_neg (by decide), if_pos rfl]
theorem stF_3 (s : Int) : stF 3 s = (if 48 ≤ s ∧ s ≤ 52 then 0 else -6) := by
  unfold stF
  rw [if_neg (by decide), if_neg (by decide), if_neg (by decide), if_pos rfl]
theorem stF_4 (s : Int) : stF 4 s = (if 97 ≤ s ∧ s ≤ 104 then 0 else -6) := by
  unfold stF
  rw [if_neg (by decide), if_neg (by decide), if_neg (by decide), if_neg (by decide), if_pos rfl]
theorem stF_5 (s : Int) : stF 5 s = (if s = 60 ∨ s = 62 then 6 else -6) := by
  unfold stF
  rw [if_neg (by decide), if_neg (by decide), if_neg (by decide), if_neg (by decide), if_neg (by decide), if_pos rfl]
theorem stF_6 (s : Int) : stF 6 s = (if 48 ≤ s ∧ s ≤ 57 then 0 else -6) := by
  unfold stF
  rw [if_neg (by decide), if_neg (by decide), if_neg (by decide), if_neg (by decide), if_neg (by decide), if_neg (by decide), if_pos rfl]
theorem stF_7 (s : Int) : stF 7 s = (if 97 ≤ s ∧ s ≤ 104 then 3 else -6) := by
  unfold stF
  rw [if_neg (by decide), if_neg (by decide), if_neg (by decide), if_neg (by decide), if_neg (by decide), if_neg (by decide), if_neg (by decide)]
theorem sp_M_step {st s : Int} (t0 : 0 ≤ st) (t1 : st ≤ 7) (s0 : 0 ≤ s) (s1 : s ≤ 126) : Sp xs m_M_step [vI st, vI s] h (some (vI (stF st s))) h := by
  refine en_M_step ?_
  refine r_iload_n cd_M_step_0 rfl ?_
  refine r_bipush cd_M_step_1 ?_
  refine r_bipush cd_M_step_3 ?_
  refine r_cv3 cd_M_step_5 rfl ck_M_step_M_in rfl (Nat.le_of_ble_eq_true rfl) (sp_M_in ⟨by omega, by omega⟩ ⟨by decide, by decide⟩ ⟨by decide, by decide⟩) ?_
  refine r_istoren4_2 cd_M_step_8 rfl ?_
  refine r_iload_n cd_M_step_9 rfl ?_
  refine r_bipush cd_M_step_10 ?_
  refine r_icmp_eq cd_M_step_12 ⟨by omega, by omega⟩ ⟨by decide, by decide⟩ (fun c_12 => ?_) (fun c_12 => ?_)
  · skip
    refine r_iconst cd_M_step_21 ?_
    refine r_goto cd_M_step_22 ?_
    refine r_istoren4_3 cd_M_step_26 rfl ?_
    refine r_iload_n cd_M_step_27 rfl ?_
    by_cases s_28_0 : st = 0
    · skip
      rw [s_28_0]
      refine r_switch (t := 72) cd_M_step_28 ⟨by decide, by decide⟩ (by decide) ?_
      refine r_iload_n cd_M_step_72 rfl ?_
      refine r_ifeq_p cd_M_step_73 (fun c_73 => ?_) (fun c_73 => ?_)
      · skip
        refine r_iload_n cd_M_step_80 rfl ?_
        refine r_bipush cd_M_step_81 ?_
        refine r_icmp_ne cd_M_step_83 ⟨by omega, by omega⟩ ⟨by decide, by decide⟩ (fun c_83 => ?_) (fun c_83 => ?_)
        · skip
          refine r_iload_n cd_M_step_90 rfl ?_
          refine r_bipush cd_M_step_91 ?_
          refine r_icmp_ne cd_M_step_93 ⟨by omega, by omega⟩ ⟨by decide, by decide⟩ (fun c_93 => ?_) (fun c_93 => ?_)
          · skip
            refine r_iload_n cd_M_step_100 rfl ?_
            refine r_bipush cd_M_step_101 ?_
            refine r_icmp_ne cd_M_step_103 ⟨by omega, by omega⟩ ⟨by decide, by decide⟩ (fun c_103 => ?_) (fun c_103 => ?_)
            · skip
              refine r_iload_n cd_M_step_110 rfl ?_
              refine r_bipush cd_M_step_111 ?_
              refine r_icmp_ne cd_M_step_113 ⟨by omega, by omega⟩ ⟨by decide, by decide⟩ (fun c_113 => ?_) (fun c_113 => ?_)
              · skip
                refine r_iload_n cd_M_step_121 rfl ?_
                refine r_bipush cd_M_step_122 ?_
                refine r_icmp_ne cd_M_step_124 ⟨by omega, by omega⟩ ⟨by decide, by decide⟩ (fun c_124 => ?_) (fun c_124 => ?_)
                · skip
                  refine r_bipush cd_M_step_131 ?_
                  exact r_iret cd_M_step_133 rt_M_step (by (rw [stF_0]; (repeat' split) <;> first | rfl | omega)) (by rfl)
                · skip
                  refine r_iconst cd_M_step_127 ?_
                  refine r_goto cd_M_step_128 ?_
                  exact r_iret cd_M_step_133 rt_M_step (by (rw [stF_0]; (repeat' split) <;> first | rfl | omega)) (by rfl)
              · skip
                refine r_bipush cd_M_step_116 ?_
                refine r_goto cd_M_step_118 ?_
                exact r_iret cd_M_step_133 rt_M_step (by (rw [stF_0]; (repeat' split) <;> first | rfl | omega)) (by rfl)
            · skip
              refine r_iconst cd_M_step_106 ?_
              refine r_goto cd_M_step_107 ?_
              exact r_iret cd_M_step_133 rt_M_step (by (rw [stF_0]; (repeat' split) <;> first | rfl | omega)) (by rfl)
          · skip
            refine r_iconst cd_M_step_96 ?_
            refine r_goto cd_M_step_97 ?_
            exact r_iret cd_M_step_133 rt_M_step (by (rw [stF_0]; (repeat' split) <;> first | rfl | omega)) (by rfl)
        · skip
          refine r_iconst cd_M_step_86 ?_
          refine r_goto cd_M_step_87 ?_
          exact r_iret cd_M_step_133 rt_M_step (by (rw [stF_0]; (repeat' split) <;> first | rfl | omega)) (by rfl)
      · skip
        refine r_iconst cd_M_step_76 ?_
        refine r_goto cd_M_step_77 ?_
        exact r_iret cd_M_step_133 rt_M_step (by (rw [stF_0]; (repeat' split) <;> first | rfl | omega)) (by rfl)
    by_cases s_28_1 : st = 1
    · skip
      rw [s_28_1]
      refine r_switch (t := 134) cd_M_step_28 ⟨by decide, by decide⟩ (by decide) ?_
      refine r_iload_n cd_M_step_134 rfl ?_
      refine r_bipush cd_M_step_135 ?_
      refine r_icmp_eq cd_M_step_137 ⟨by omega, by omega⟩ ⟨by decide, by decide⟩ (fun c_137 => ?_) (fun c_137 => ?_)
      · skip
        refine r_iconst cd_M_step_146 ?_
        refine r_goto cd_M_step_147 ?_
        exact r_iret cd_M_step_160 rt_M_step (by (rw [stF_1]; (repeat' split) <;> first | rfl | omega)) (by rfl)
      · skip
        refine r_iload_n cd_M_step_140 rfl ?_
        refine r_bipush cd_M_step_141 ?_
        refine r_icmp_ne cd_M_step_143 ⟨by omega, by omega⟩ ⟨by decide, by decide⟩ (fun c_143 => ?_) (fun c_143 => ?_)
        · skip
          refine r_iload_n cd_M_step_150 rfl ?_
          refine r_if_eq cd_M_step_151 ⟨by decide, by decide⟩ (fun c_151 => absurd c_151 (by decide)) (fun _ => ?_)
          refine r_iconst cd_M_step_154 ?_
          refine r_goto cd_M_step_155 ?_
          exact r_iret cd_M_step_160 rt_M_step (by (rw [stF_1]; (repeat' split) <;> first | rfl | omega)) (by rfl)
        · skip
          refine r_iconst cd_M_step_146 ?_
          refine r_goto cd_M_step_147 ?_
          exact r_iret cd_M_step_160 rt_M_step (by (rw [stF_1]; (repeat' split) <;> first | rfl | omega)) (by rfl)
    by_cases s_28_2 : st = 2
    · skip
      rw [s_28_2]
      refine r_switch (t := 161) cd_M_step_28 ⟨by decide, by decide⟩ (by decide) ?_
      refine r_iload_n cd_M_step_161 rfl ?_
      refine r_bipush cd_M_step_162 ?_
      refine r_bipush cd_M_step_164 ?_
      refine r_cv3 cd_M_step_166 rfl ck_M_step_M_in rfl (Nat.le_of_ble_eq_true rfl) (sp_M_in ⟨by omega, by omega⟩ ⟨by decide, by decide⟩ ⟨by decide, by decide⟩) ?_
      refine r_ifeq_p cd_M_step_169 (fun c_169 => ?_) (fun c_169 => ?_)
      · skip
        refine r_bipush cd_M_step_176 ?_
        exact r_iret cd_M_step_178 rt_M_step (by (rw [stF_2]; (repeat' split) <;> first | rfl | omega)) (by rfl)
      · skip
        refine r_iconst cd_M_step_172 ?_
        refine r_goto cd_M_step_173 ?_
        exact r_iret cd_M_step_178 rt_M_step (by (rw [stF_2]; (repeat' split) <;> first | rfl | omega)) (by rfl)
    by_cases s_28_3 : st = 3
    · skip
      rw [s_28_3]
      refine r_switch (t := 179) cd_M_step_28 ⟨by decide, by decide⟩ (by decide) ?_
      refine r_iload_n cd_M_step_179 rfl ?_
      refine r_bipush cd_M_step_180 ?_
      refine r_bipush cd_M_step_182 ?_
      refine r_cv3 cd_M_step_184 rfl ck_M_step_M_in rfl (Nat.le_of_ble_eq_true rfl) (sp_M_in ⟨by omega, by omega⟩ ⟨by decide, by decide⟩ ⟨by decide, by decide⟩) ?_
      refine r_ifeq_p cd_M_step_187 (fun c_187 => ?_) (fun c_187 => ?_)
      · skip
        refine r_bipush cd_M_step_194 ?_
        exact r_iret cd_M_step_196 rt_M_step (by (rw [stF_3]; (repeat' split) <;> first | rfl | omega)) (by rfl)
      · skip
        refine r_iconst cd_M_step_190 ?_
        refine r_goto cd_M_step_191 ?_
        exact r_iret cd_M_step_196 rt_M_step (by (rw [stF_3]; (repeat' split) <;> first | rfl | omega)) (by rfl)
    by_cases s_28_4 : st = 4
    · skip
      rw [s_28_4]
      refine r_switch (t := 197) cd_M_step_28 ⟨by decide, by decide⟩ (by decide) ?_
      refine r_iload_n cd_M_step_197 rfl ?_
      refine r_ifeq_p cd_M_step_198 (fun c_198 => ?_) (fun c_198 => ?_)
      · skip
        refine r_bipush cd_M_step_205 ?_
        exact r_iret cd_M_step_207 rt_M_step (by (rw [stF_4]; (repeat' split) <;> first | rfl | omega)) (by rfl)
      · skip
        refine r_iconst cd_M_step_201 ?_
        refine r_goto cd_M_step_202 ?_
        exact r_iret cd_M_step_207 rt_M_step (by (rw [stF_4]; (repeat' split) <;> first | rfl | omega)) (by rfl)
    by_cases s_28_5 : st = 5
    · skip
      rw [s_28_5]
      refine r_switch (t := 208) cd_M_step_28 ⟨by decide, by decide⟩ (by decide) ?_
      refine r_iload_n cd_M_step_208 rfl ?_
      refine r_if_eq cd_M_step_209 ⟨by decide, by decide⟩ (fun c_209 => absurd c_209 (by decide)) (fun _ => ?_)
      refine r_bipush cd_M_step_212 ?_
      refine r_goto cd_M_step_214 ?_
      exact r_iret cd_M_step_219 rt_M_step (by (rw [stF_5]; (repeat' split) <;> first | rfl | omega)) (by rfl)
    by_cases s_28_6 : st = 6
    · skip
      rw [s_28_6]
      refine r_switch (t := 220) cd_M_step_28 ⟨by decide, by decide⟩ (by decide) ?_
      refine r_iload_n cd_M_step_220 rfl ?_
      refine r_bipush cd_M_step_221 ?_
      refine r_bipush cd_M_step_223 ?_
      refine r_cv3 cd_M_step_225 rfl ck_M_step_M_in rfl (Nat.le_of_ble_eq_true rfl) (sp_M_in ⟨by omega, by omega⟩ ⟨by decide, by decide⟩ ⟨by decide, by decide⟩) ?_
      refine r_ifeq_p cd_M_step_228 (fun c_228 => ?_) (fun c_228 => ?_)
      · skip
        refine r_bipush cd_M_step_235 ?_
        exact r_iret cd_M_step_237 rt_M_step (by (rw [stF_6]; (repeat' split) <;> first | rfl | omega)) (by rfl)
      · skip
        refine r_iconst cd_M_step_231 ?_
        refine r_goto cd_M_step_232 ?_
        exact r_iret cd_M_step_237 rt_M_step (by (rw [stF_6]; (repeat' split) <;> first | rfl | omega)) (by rfl)
    refine r_switch (t := 238) cd_M_step_28 ⟨by omega, by omega⟩ (by unfold swT; rw [if_pos (by omega)]; rfl) ?_
    refine r_iload_n cd_M_step_238 rfl ?_
    refine r_ifeq_p cd_M_step_239 (fun c_239 => ?_) (fun c_239 => ?_)
    · skip
      refine r_bipush cd_M_step_246 ?_
      exact r_iret cd_M_step_248 rt_M_step (by (rw [show st = 7 by omega, stF_7]; (repeat' split) <;> first | rfl | omega)) (by rfl)
    · skip
      refine r_iconst cd_M_step_242 ?_
      refine r_goto cd_M_step_243 ?_
      exact r_iret cd_M_step_248 rt_M_step (by (rw [show st = 7 by omega, stF_7]; (repeat' split) <;> first | rfl | omega)) (by rfl)
  · skip
    refine r_iload_n cd_M_step_15 rfl ?_
    refine r_bipush cd_M_step_16 ?_
    refine r_icmp_ne cd_M_step_18 ⟨by omega, by omega⟩ ⟨by decide, by decide⟩ (fun c_18 => ?_) (fun c_18 => ?_)
    · skip
      refine r_iconst cd_M_step_25 ?_
      refine r_istoren4_3 cd_M_step_26 rfl ?_
      refine r_iload_n cd_M_step_27 rfl ?_
      by_cases s_28_0 : st = 0
      · skip
        rw [s_28_0]
        refine r_switch (t := 72) cd_M_step_28 ⟨by decide, by decide⟩ (by decide) ?_
        refine r_iload_n cd_M_step_72 rfl ?_
        refine r_ifeq_p cd_M_step_73 (fun c_73 => ?_) (fun c_73 => ?_)
        · skip
          refine r_iload_n cd_M_step_80 rfl ?_
          refine r_bipush cd_M_step_81 ?_
          refine r_icmp_ne cd_M_step_83 ⟨by omega, by omega⟩ ⟨by decide, by decide⟩ (fun c_83 => ?_) (fun c_83 => ?_)
          · skip
            refine r_iload_n cd_M_step_90 rfl ?_
            refine r_bipush cd_M_step_91 ?_
            refine r_icmp_ne cd_M_step_93 ⟨by omega, by omega⟩ ⟨by decide, by decide⟩ (fun c_93 => ?_) (fun c_93 => ?_)
            · skip
              refine r_iload_n cd_M_step_100 rfl ?_
              refine r_bipush cd_M_step_101 ?_
              refine r_icmp_ne cd_M_step_103 ⟨by omega, by omega⟩ ⟨by decide, by decide⟩ (fun c_103 => ?_) (fun c_103 => ?_)
              · skip
                refine r_iload_n cd_M_step_110 rfl ?_
                refine r_bipush cd_M_step_111 ?_
                refine r_icmp_ne cd_M_step_113 ⟨by omega, by omega⟩ ⟨by decide, by decide⟩ (fun c_113 => ?_) (fun c_113 => ?_)
                · skip
                  refine r_iload_n cd_M_step_121 rfl ?_
                  refine r_bipush cd_M_step_122 ?_
                  refine r_icmp_ne cd_M_step_124 ⟨by omega, by omega⟩ ⟨by decide, by decide⟩ (fun c_124 => ?_) (fun c_124 => ?_)
                  · skip
                    refine r_bipush cd_M_step_131 ?_
                    exact r_iret cd_M_step_133 rt_M_step (by (rw [stF_0]; (repeat' split) <;> first | rfl | omega)) (by rfl)
                  · skip
                    refine r_iconst cd_M_step_127 ?_
                    refine r_goto cd_M_step_128 ?_
                    exact r_iret cd_M_step_133 rt_M_step (by (rw [stF_0]; (repeat' split) <;> first | rfl | omega)) (by rfl)
                · skip
                  refine r_bipush cd_M_step_116 ?_
                  refine r_goto cd_M_step_118 ?_
                  exact r_iret cd_M_step_133 rt_M_step (by (rw [stF_0]; (repeat' split) <;> first | rfl | omega)) (by rfl)
              · skip
                refine r_iconst cd_M_step_106 ?_
                refine r_goto cd_M_step_107 ?_
                exact r_iret cd_M_step_133 rt_M_step (by (rw [stF_0]; (repeat' split) <;> first | rfl | omega)) (by rfl)
            · skip
              refine r_iconst cd_M_step_96 ?_
              refine r_goto cd_M_step_97 ?_
              exact r_iret cd_M_step_133 rt_M_step (by (rw [stF_0]; (repeat' split) <;> first | rfl | omega)) (by rfl)
          · skip
            refine r_iconst cd_M_step_86 ?_
            refine r_goto cd_M_step_87 ?_
            exact r_iret cd_M_step_133 rt_M_step (by (rw [stF_0]; (repeat' split) <;> first | rfl | omega)) (by rfl)
        · skip
          refine r_iconst cd_M_step_76 ?_
          refine r_goto cd_M_step_77 ?_
          exact r_iret cd_M_step_133 rt_M_step (by (rw [stF_0]; (repeat' split) <;> first | rfl | omega)) (by rfl)
      by_cases s_28_1 : st = 1
      · skip
        rw [s_28_1]
        refine r_switch (t := 134) cd_M_step_28 ⟨by decide, by decide⟩ (by decide) ?_
        refine r_iload_n cd_M_step_134 rfl ?_
        refine r_bipush cd_M_step_135 ?_
        refine r_icmp_eq cd_M_step_137 ⟨by omega, by omega⟩ ⟨by decide, by decide⟩ (fun c_137 => ?_) (fun c_137 => ?_)
        · skip
          refine r_iconst cd_M_step_146 ?_
          refine r_goto cd_M_step_147 ?_
          exact r_iret cd_M_step_160 rt_M_step (by (rw [stF_1]; (repeat' split) <;> first | rfl | omega)) (by rfl)
        · skip
          refine r_iload_n cd_M_step_140 rfl ?_
          refine r_bipush cd_M_step_141 ?_
          refine r_icmp_ne cd_M_step_143 ⟨by omega, by omega⟩ ⟨by decide, by decide⟩ (fun c_143 => ?_) (fun c_143 => ?_)
          · skip
            refine r_iload_n cd_M_step_150 rfl ?_
            refine r_if_eq cd_M_step_151 ⟨by decide, by decide⟩ (fun _ => ?_) (fun c_151 => absurd c_151 (by decide))
            refine r_bipush cd_M_step_158 ?_
            exact r_iret cd_M_step_160 rt_M_step (by (rw [stF_1]; (repeat' split) <;> first | rfl | omega)) (by rfl)
          · skip
            refine r_iconst cd_M_step_146 ?_
            refine r_goto cd_M_step_147 ?_
            exact r_iret cd_M_step_160 rt_M_step (by (rw [stF_1]; (repeat' split) <;> first | rfl | omega)) (by rfl)
      by_cases s_28_2 : st = 2
      · skip
        rw [s_28_2]
        refine r_switch (t := 161) cd_M_step_28 ⟨by decide, by decide⟩ (by decide) ?_
        refine r_iload_n cd_M_step_161 rfl ?_
        refine r_bipush cd_M_step_162 ?_
        refine r_bipush cd_M_step_164 ?_
        refine r_cv3 cd_M_step_166 rfl ck_M_step_M_in rfl (Nat.le_of_ble_eq_true rfl) (sp_M_in ⟨by omega, by omega⟩ ⟨by decide, by decide⟩ ⟨by decide, by decide⟩) ?_
        refine r_ifeq_p cd_M_step_169 (fun c_169 => ?_) (fun c_169 => ?_)
        · skip
          refine r_bipush cd_M_step_176 ?_
          exact r_iret cd_M_step_178 rt_M_step (by (rw [stF_2]; (repeat' split) <;> first | rfl | omega)) (by rfl)
        · skip
          refine r_iconst cd_M_step_172 ?_
          refine r_goto cd_M_step_173 ?_
          exact r_iret cd_M_step_178 rt_M_step (by (rw [stF_2]; (repeat' split) <;> first | rfl | omega)) (by rfl)
      by_cases s_28_3 : st = 3
      · skip
        rw [s_28_3]
        refine r_switch (t := 179) cd_M_step_28 ⟨by decide, by decide⟩ (by decide) ?_
        refine r_iload_n cd_M_step_179 rfl ?_
        refine r_bipush cd_M_step_180 ?_
        refine r_bipush cd_M_step_182 ?_
        refine r_cv3 cd_M_step_184 rfl ck_M_step_M_in rfl (Nat.le_of_ble_eq_true rfl) (sp_M_in ⟨by omega, by omega⟩ ⟨by decide, by decide⟩ ⟨by decide, by decide⟩) ?_
        refine r_ifeq_p cd_M_step_187 (fun c_187 => ?_) (fun c_187 => ?_)
        · skip
          refine r_bipush cd_M_step_194 ?_
          exact r_iret cd_M_step_196 rt_M_step (by (rw [stF_3]; (repeat' split) <;> first | rfl | omega)) (by rfl)
        · skip
          refine r_iconst cd_M_step_190 ?_
          refine r_goto cd_M_step_191 ?_
          exact r_iret cd_M_step_196 rt_M_step (by (rw [stF_3]; (repeat' split) <;> first | rfl | omega)) (by rfl)
      by_cases s_28_4 : st = 4
      · skip
        rw [s_28_4]
        refine r_switch (t := 197) cd_M_step_28 ⟨by decide, by decide⟩ (by decide) ?_
        refine r_iload_n cd_M_step_197 rfl ?_
        refine r_ifeq_p cd_M_step_198 (fun c_198 => ?_) (fun c_198 => ?_)
        · skip
          refine r_bipush cd_M_step_205 ?_
          exact r_iret cd_M_step_207 rt_M_step (by (rw [stF_4]; (repeat' split) <;> first | rfl | omega)) (by rfl)
        · skip
          refine r_iconst cd_M_step_201 ?_
          refine r_goto cd_M_step_202 ?_
          exact r_iret cd_M_step_207 rt_M_step (by (rw [stF_4]; (repeat' split) <;> first | rfl | omega)) (by rfl)
      by_cases s_28_5 : st = 5
      · skip
        rw [s_28_5]
        refine r_switch (t := 208) cd_M_step_28 ⟨by decide, by decide⟩ (by decide) ?_
        refine r_iload_n cd_M_step_208 rfl ?_
        refine r_if_eq cd_M_step_209 ⟨by decide, by decide⟩ (fun _ => ?_) (fun c_209 => absurd c_209 (by decide))
        refine r_bipush cd_M_step_217 ?_
        exact r_iret cd_M_step_219 rt_M_step (by (rw [stF_5]; (repeat' split) <;> first | rfl | omega)) (by rfl)
      by_cases s_28_6 : st = 6
      · skip
        rw [s_28_6]
        refine r_switch (t := 220) cd_M_step_28 ⟨by decide, by decide⟩ (by decide) ?_
        refine r_iload_n cd_M_step_220 rfl ?_
        refine r_bipush cd_M_step_221 ?_
        refine r_bipush cd_M_step_223 ?_
        refine r_cv3 cd_M_step_225 rfl ck_M_step_M_in rfl (Nat.le_of_ble_eq_true rfl) (sp_M_in ⟨by omega, by omega⟩ ⟨by decide, by decide⟩ ⟨by decide, by decide⟩) ?_
        refine r_ifeq_p cd_M_step_228 (fun c_228 => ?_) (fun c_228 => ?_)
        · skip
          refine r_bipush cd_M_step_235 ?_
          exact r_iret cd_M_step_237 rt_M_step (by (rw [stF_6]; (repeat' split) <;> first | rfl | omega)) (by rfl)
        · skip
          refine r_iconst cd_M_step_231 ?_
          refine r_goto cd_M_step_232 ?_
          exact r_iret cd_M_step_237 rt_M_step (by (rw [stF_6]; (repeat' split) <;> first | rfl | omega)) (by rfl)
      refine r_switch (t := 238) cd_M_step_28 ⟨by omega, by omega⟩ (by unfold swT; rw [if_pos (by omega)]; rfl) ?_
      refine r_iload_n cd_M_step_238 rfl ?_
      refine r_ifeq_p cd_M_step_239 (fun c_239 => ?_) (fun c_239 => ?_)
      · skip
        refine r_bipush cd_M_step_246 ?_
        exact r_iret cd_M_step_248 rt_M_step (by (rw [show st = 7 by omega, stF_7]; (repeat' split) <;> first | rfl | omega)) (by rfl)
      · skip
        refine r_iconst cd_M_step_242 ?_
        refine r_goto cd_M_step_243 ?_
        exact r_iret cd_M_step_248 rt_M_step (by (rw [show st = 7 by omega, stF_7]; (repeat' split) <;> first | rfl | omega)) (by rfl)
    · skip
      refine r_iconst cd_M_step_21 ?_
      refine r_goto cd_M_step_22 ?_
      refine r_istoren4_3 cd_M_step_26 rfl ?_
      refine r_iload_n cd_M_step_27 rfl ?_
      by_cases s_28_0 : st = 0
      · skip
        rw [s_28_0]
        refine r_switch (t := 72) cd_M_step_28 ⟨by decide, by decide⟩ (by decide) ?_
        refine r_iload_n cd_M_step_72 rfl ?_
        refine r_ifeq_p cd_M_step_73 (fun c_73 => ?_) (fun c_73 => ?_)
        · skip
          refine r_iload_n cd_M_step_80 rfl ?_
          refine r_bipush cd_M_step_81 ?_
          refine r_icmp_ne cd_M_step_83 ⟨by omega, by omega⟩ ⟨by decide, by decide⟩ (fun c_83 => ?_) (fun c_83 => ?_)
          · skip
            refine r_iload_n cd_M_step_90 rfl ?_
            refine r_bipush cd_M_step_91 ?_
            refine r_icmp_ne cd_M_step_93 ⟨by omega, by omega⟩ ⟨by decide, by decide⟩ (fun c_93 => ?_) (fun c_93 => ?_)
            · skip
              refine r_iload_n cd_M_step_100 rfl ?_
              refine r_bipush cd_M_step_101 ?_
              refine r_icmp_ne cd_M_step_103 ⟨by omega, by omega⟩ ⟨by decide, by decide⟩ (fun c_103 => ?_) (fun c_103 => ?_)
              · skip
                refine r_iload_n cd_M_step_110 rfl ?_
                refine r_bipush cd_M_step_111 ?_
                refine r_icmp_ne cd_M_step_113 ⟨by omega, by omega⟩ ⟨by decide, by decide⟩ (fun c_113 => ?_) (fun c_113 => ?_)
                · skip
                  refine r_iload_n cd_M_step_121 rfl ?_
                  refine r_bipush cd_M_step_122 ?_
                  refine r_icmp_ne cd_M_step_124 ⟨by omega, by omega⟩ ⟨by decide, by decide⟩ (fun c_124 => ?_) (fun c_124 => ?_)
                  · skip
                    refine r_bipush cd_M_step_131 ?_
                    exact r_iret cd_M_step_133 rt_M_step (by (rw [stF_0]; (repeat' split) <;> first | rfl | omega)) (by rfl)
                  · skip
                    refine r_iconst cd_M_step_127 ?_
                    refine r_goto cd_M_step_128 ?_
                    exact r_iret cd_M_step_133 rt_M_step (by (rw [stF_0]; (repeat' split) <;> first | rfl | omega)) (by rfl)
                · skip
                  refine r_bipush cd_M_step_116 ?_
                  refine r_goto cd_M_step_118 ?_
                  exact r_iret cd_M_step_133 rt_M_step (by (rw [stF_0]; (repeat' split) <;> first | rfl | omega)) (by rfl)
              · skip
                refine r_iconst cd_M_step_106 ?_
                refine r_goto cd_M_step_107 ?_
                exact r_iret cd_M_step_133 rt_M_step (by (rw [stF_0]; (repeat' split) <;> first | rfl | omega)) (by rfl)
            · skip
              refine r_iconst cd_M_step_96 ?_
              refine r_goto cd_M_step_97 ?_
              exact r_iret cd_M_step_133 rt_M_step (by (rw [stF_0]; (repeat' split) <;> first | rfl | omega)) (by rfl)
          · skip
            refine r_iconst cd_M_step_86 ?_
            refine r_goto cd_M_step_87 ?_
            exact r_iret cd_M_step_133 rt_M_step (by (rw [stF_0]; (repeat' split) <;> first | rfl | omega)) (by rfl)
        · skip
          refine r_iconst cd_M_step_76 ?_
          refine r_goto cd_M_step_77 ?_
          exact r_iret cd_M_step_133 rt_M_step (by (rw [stF_0]; (repeat' split) <;> first | rfl | omega)) (by rfl)
      by_cases s_28_1 : st = 1
      · skip
        rw [s_28_1]
        refine r_switch (t := 134) cd_M_step_28 ⟨by decide, by decide⟩ (by decide) ?_
        refine r_iload_n cd_M_step_134 rfl ?_
        refine r_bipush cd_M_step_135 ?_
        refine r_icmp_eq cd_M_step_137 ⟨by omega, by omega⟩ ⟨by decide, by decide⟩ (fun c_137 => ?_) (fun c_137 => ?_)
        · skip
          refine r_iconst cd_M_step_146 ?_
          refine r_goto cd_M_step_147 ?_
          exact r_iret cd_M_step_160 rt_M_step (by (rw [stF_1]; (repeat' split) <;> first | rfl | omega)) (by rfl)
        · skip
          refine r_iload_n cd_M_step_140 rfl ?_
          refine r_bipush cd_M_step_141 ?_
          refine r_icmp_ne cd_M_step_143 ⟨by omega, by omega⟩ ⟨by decide, by decide⟩ (fun c_143 => ?_) (fun c_143 => ?_)
          · skip
            refine r_iload_n cd_M_step_150 rfl ?_
            refine r_if_eq cd_M_step_151 ⟨by decide, by decide⟩ (fun c_151 => absurd c_151 (by decide)) (fun _ => ?_)
            refine r_iconst cd_M_step_154 ?_
            refine r_goto cd_M_step_155 ?_
            exact r_iret cd_M_step_160 rt_M_step (by (rw [stF_1]; (repeat' split) <;> first | rfl | omega)) (by rfl)
          · skip
            refine r_iconst cd_M_step_146 ?_
            refine r_goto cd_M_step_147 ?_
            exact r_iret cd_M_step_160 rt_M_step (by (rw [stF_1]; (repeat' split) <;> first | rfl | omega)) (by rfl)
      by_cases s_28_2 : st = 2
      · skip
        rw [s_28_2]
        refine r_switch (t := 161) cd_M_step_28 ⟨by decide, by decide⟩ (by decide) ?_
        refine r_iload_n cd_M_step_161 rfl ?_
        refine r_bipush cd_M_step_162 ?_
        refine r_bipush cd_M_step_164 ?_
        refine r_cv3 cd_M_step_166 rfl ck_M_step_M_in rfl (Nat.le_of_ble_eq_true rfl) (sp_M_in ⟨by omega, by omega⟩ ⟨by decide, by decide⟩ ⟨by decide, by decide⟩) ?_
        refine r_ifeq_p cd_M_step_169 (fun c_169 => ?_) (fun c_169 => ?_)
        · skip
          refine r_bipush cd_M_step_176 ?_
          exact r_iret cd_M_step_178 rt_M_step (by (rw [stF_2]; (repeat' split) <;> first | rfl | omega)) (by rfl)
        · skip
          refine r_iconst cd_M_step_172 ?_
          refine r_goto cd_M_step_173 ?_
          exact r_iret cd_M_step_178 rt_M_step (by (rw [stF_2]; (repeat' split) <;> first | rfl | omega)) (by rfl)
      by_cases s_28_3 : st = 3
      · skip
        rw [s_28_3]
        refine r_switch (t := 179) cd_M_step_28 ⟨by decide, by decide⟩ (by decide) ?_
        refine r_iload_n cd_M_step_179 rfl ?_
        refine r_bipush cd_M_step_180 ?_
        refine r_bipush cd_M_step_182 ?_
        refine r_cv3 cd_M_step_184 rfl ck_M_step_M_in rfl (Nat.le_of_ble_eq_true rfl) (sp_M_in ⟨by omega, by omega⟩ ⟨by decide, by decide⟩ ⟨by decide, by decide⟩) ?_
        refine r_ifeq_p cd_M_step_187 (fun c_187 => ?_) (fun c_187 => ?_)
        · skip
          refine r_bipush cd_M_step_194 ?_
          exact r_iret cd_M_step_196 rt_M_step (by (rw [stF_3]; (repeat' split) <;> first | rfl | omega)) (by rfl)
        · skip
          refine r_iconst cd_M_step_190 ?_
          refine r_goto cd_M_step_191 ?_
          exact r_iret cd_M_step_196 rt_M_step (by (rw [stF_3]; (repeat' split) <;> first | rfl | omega)) (by rfl)
      by_cases s_28_4 : st = 4
      · skip
        rw [s_28_4]
        refine r_switch (t := 197) cd_M_step_28 ⟨by decide, by decide⟩ (by decide) ?_
        refine r_iload_n cd_M_step_197 rfl ?_
        refine r_ifeq_p cd_M_step_198 (fun c_198 => ?_) (fun c_198 => ?_)
        · skip
          refine r_bipush cd_M_step_205 ?_
          exact r_iret cd_M_step_207 rt_M_step (by (rw [stF_4]; (repeat' split) <;> first | rfl | omega)) (by rfl)
        · skip
          refine r_iconst cd_M_step_201 ?_
          refine r_goto cd_M_step_202 ?_
          exact r_iret cd_M_step_207 rt_M_step (by (rw [stF_4]; (repeat' split) <;> first | rfl | omega)) (by rfl)
      by_cases s_28_5 : st = 5
      · skip
        rw [s_28_5]
        refine r_switch (t := 208) cd_M_step_28 ⟨by decide, by decide⟩ (by decide) ?_
        refine r_iload_n cd_M_step_208 rfl ?_
        refine r_if_eq cd_M_step_209 ⟨by decide, by decide⟩ (fun c_209 => absurd c_209 (by decide)) (fun _ => ?_)
        refine r_bipush cd_M_step_212 ?_
        refine r_goto cd_M_step_214 ?_
        exact r_iret cd_M_step_219 rt_M_step (by (rw [stF_5]; (repeat' split) <;> first | rfl | omega)) (by rfl)
      by_cases s_28_6 : st = 6
      · skip
        rw [s_28_6]
        refine r_switch (t := 220) cd_M_step_28 ⟨by decide, by decide⟩ (by decide) ?_
        refine r_iload_n cd_M_step_220 rfl ?_
        refine r_bipush cd_M_step_221 ?_
        refine r_bipush cd_M_step_223 ?_
        refine r_cv3 cd_M_step_225 rfl ck_M_step_M_in rfl (Nat.le_of_ble_eq_true rfl) (sp_M_in ⟨by omega, by omega⟩ ⟨by decide, by decide⟩ ⟨by decide, by decide⟩) ?_
        refine r_ifeq_p cd_M_step_228 (fun c_228 => ?_) (fun c_228 => ?_)
        · skip
          refine r_bipush cd_M_step_235 ?_
          exact r_iret cd_M_step_237 rt_M_step (by (rw [stF_6]; (repeat' split) <;> first | rfl | omega)) (by rfl)
        · skip
          refine r_iconst cd_M_step_231 ?_
          refine r_goto cd_M_step_232 ?_
          exact r_iret cd_M_step_237 rt_M_step (by (rw [stF_6]; (repeat' split) <;> first | rfl | omega)) (by rfl)
      refine r_switch (t := 238) cd_M_step_28 ⟨by omega, by omega⟩ (by unfold swT; rw [if_pos (by omega)]; rfl) ?_
      refine r_iload_n cd_M_step_238 rfl ?_
      refine r_ifeq_p cd_M_step_239 (fun c_239 => ?_) (fun c_239 => ?_)
      · skip
        refine r_bipush cd_M_step_246 ?_
        exact r_iret cd_M_step_248 rt_M_step (by (rw [show st = 7 by omega, stF_7]; (repeat' split) <;> first | rfl | omega)) (by rfl)
      · skip
        refine r_iconst cd_M_step_242 ?_
        refine r_goto cd_M_step_243 ?_
        exact r_iret cd_M_step_248 rt_M_step (by (rw [show st = 7 by omega, stF_7]; (repeat' split) <;> first | rfl | omega)) (by rfl)
end C59
