-- more fuel, more room: the same answer
theorem mcall_mono {F F' : Nat} {call call' : Nat → Nat → List MV → MH → Option (Option MV × MH)} {Lr Lr' : Nat} {e : EN} {st : List MV} {h : MH} {r : List MV × MH}
    (hc : ∀ (L L' a : Nat) (as : List MV) (h : MH) (r : Option MV × MH), L ≤ L' → call L a as h = some r → call' L' a as h = some r) (hF : F ≤ F') (hL : Lr ≤ Lr') (hr : mcall F call Lr e st h = some r) : mcall F' call' Lr' e st h = some r := by
  obtain ⟨I, np, a, b, c⟩ := e
  simp only [mcall] at hr ⊢
  by_cases hb : b = 5
  · simp only [hb, if_true] at hr ⊢
    split at hr
    · next r' =>
      by_cases hq : 1 ≤ F ∧ 20 ≤ Lr ∧ csum r' ≤ 8
      · rw [if_pos hq] at hr
        rw [if_pos ⟨Nat.le_trans hq.1 hF, Nat.le_trans hq.2.1 hL, hq.2.2⟩]
        exact hr
      · rw [if_neg hq] at hr; cases hr
    · cases hr
  · simp only [hb, if_false] at hr ⊢
    by_cases hq : naC b a ≤ st.length ∧ csum (st.drop (naC b a)) ≤ 8 ∧ 19 + mxM a ≤ Lr ∧ recvOK b a (st.take (naC b a)).reverse h = true
    · rw [if_pos hq] at hr
      rw [if_pos ⟨hq.1, hq.2.1, Nat.le_trans hq.2.2.1 hL, hq.2.2.2⟩]
      cases hcall : call (Lr - (19 + mxM a)) a (st.take (naC b a)).reverse h with
      | none => rw [hcall] at hr; cases hr
      | some q =>
        rw [hcall] at hr
        rw [hc _ (Lr' - (19 + mxM a)) _ _ _ _ (by omega) hcall]
        exact hr
    · rw [if_neg hq] at hr; cases hr
theorem goN_mono {xs : List Int} {F F' : Nat} {call call' : Nat → Nat → List MV → MH → Option (Option MV × MH)}
    (hc : ∀ (L L' a : Nat) (as : List MV) (h : MH) (r : Option MV × MH), L ≤ L' → call L a as h = some r → call' L' a as h = some r) (hF : F ≤ F') :
    ∀ (n n' Lr Lr' m pc : Nat) (ls st : List MV) (h : MH) (r : Option MV × MH), n ≤ n' → Lr ≤ Lr' → goN xs F call n Lr m pc ls st h = some r → goN xs F' call' n' Lr' m pc ls st h = some r := by
  intro n
  induction n with
  | zero => intro n' Lr Lr' m pc ls st h r _ _ hr; simp [goN] at hr
  | succ n ih =>
    intro n' Lr Lr' m pc ls st h r hn hL hr
    cases n' with
    | zero => omega
    | succ n' =>
      have hn' : n ≤ n' := by omega
      unfold goN at hr ⊢
      cases hco : code_ m pc with
      | none => rw [hco] at hr; cases hr
      | some e =>
        rw [hco] at hr
        dsimp only at hr ⊢
        by_cases h1 : kindI e.1 = 1
        · rw [if_pos h1] at hr ⊢; exact hr
        · rw [if_neg h1] at hr ⊢
          by_cases h2 : kindI e.1 = 2
          · rw [if_pos h2] at hr ⊢
            cases hm : mcall F call Lr e st h with
            | none => rw [hm] at hr; cases hr
            | some q =>
              rw [hm] at hr
              rw [mcall_mono hc hF hL hm]
              exact ih n' Lr Lr' m _ _ _ _ _ hn' hL hr
          · rw [if_neg h2] at hr ⊢
            cases hs : sstep xs pc e ls st h with
            | none => rw [hs] at hr; cases hr
            | some q =>
              rw [hs] at hr
              exact ih n' Lr Lr' m _ _ _ _ _ hn' hL hr
theorem exec_mono {xs : List Int} : ∀ (F F' n n' Lr Lr' m : Nat) (as : List MV) (h : MH) (r : Option MV × MH), F ≤ F' → n ≤ n' → Lr ≤ Lr' → exec xs F n Lr m as h = some r → exec xs F' n' Lr' m as h = some r := by
  intro F
  induction F with
  | zero => intro F' n n' Lr Lr' m as h r _ _ _ hr; simp [exec] at hr
  | succ F ih =>
    intro F' n n' Lr Lr' m as h r hF hn hL hr
    cases F' with
    | zero => omega
    | succ F' =>
      have hF' : F ≤ F' := by omega
      unfold exec at hr ⊢
      by_cases hq : (lay as).length ≤ mxM m
      · rw [if_pos hq] at hr ⊢
        exact goN_mono (fun L L' a as h r hL hr => ih F' n n' L L' a as h r hF' hn hL hr) hF' n n' Lr Lr' m 0 _ _ _ _ hn hL hr
      · rw [if_neg hq] at hr; cases hr
/-- the rest of a body comes to an end, with an answer -/
def Rn (xs : List Int) (m pc : Nat) (ls st : List MV) (h : MH) (r : Option MV) (h' : MH) : Prop := ∃ n, goN xs (FDp m) (exec xs (FDp m) n) n (LDp m) m pc ls st h = some (r, h')
/-- a method comes to an end, with an answer -/
def Sp (xs : List Int) (m : Nat) (as : List MV) (h : MH) (r : Option MV) (h' : MH) : Prop := ∃ n, exec xs (FDp m + 1) n (LDp m) m as h = some (r, h')
theorem sp_of {xs : List Int} {m : Nat} {as : List MV} {h : MH} {r : Option MV} {h' : MH} {ls : List MV} (hl : (lay as).length ≤ mxM m) (hi : ini m as = ls) (k : Rn xs m 0 ls [] h r h') : Sp xs m as h r h' := by
  obtain ⟨n, hn⟩ := k
  refine ⟨n, ?_⟩
  unfold exec
  rw [if_pos hl, hi]
  exact hn
section RowsOf
variable {xs : List Int} {m pc pc' np a b : Nat} {c : Int} {ls ls' st st' : List MV} {h h1 h' : MH} {r : Option MV} {e : EN}
theorem rn_s (hc : code_ m pc = some e) (hk : kindI e.1 = 0) (hs : sstep xs pc e ls st h = some (pc', ls', st', h1)) (k : Rn xs m pc' ls' st' h1 r h') : Rn xs m pc ls st h r h' := by
  obtain ⟨n, hn⟩ := k
  refine ⟨n + 1, ?_⟩
  unfold goN
  rw [hc]
  dsimp only
  rw [if_neg (by rw [hk]; decide), if_neg (by rw [hk]; decide), hs]
  exact goN_mono (fun L L' a as h r hL hr => exec_mono _ _ _ _ L L' a as h r (Nat.le_refl _) (Nat.le_succ n) hL hr) (Nat.le_refl _) n n _ _ m _ _ _ _ _ (Nat.le_refl _) (Nat.le_refl _) hn
theorem rn_e (hc : code_ m pc = some e) (hk : kindI e.1 = 1) (hs : mret m e.1 st = some r) : Rn xs m pc ls st h r h := by
  refine ⟨1, ?_⟩
  unfold goN
  rw [hc]
  dsimp only
  rw [if_pos hk, hs]
theorem rn_o {I : Instr} {x : Nat} (hc : code_ m pc = some (I, np, a, 5, c)) (hk : kindI I = 2) (hF : 1 ≤ FDp m) (hL : 20 ≤ LDp m) (hs : csum st ≤ 8) (k : Rn xs m np ls st h r h') : Rn xs m pc ls (vR x :: st) h r h' := by
  obtain ⟨n, hn⟩ := k
  refine ⟨n + 1, ?_⟩
  unfold goN
  rw [hc]
  dsimp only
  rw [if_neg (by rw [hk]; decide), if_pos hk]
  simp only [mcall, if_true]
  rw [if_pos ⟨hF, hL, hs⟩]
  exact goN_mono (fun L L' a as h r hL hr => exec_mono _ _ _ _ L L' a as h r (Nat.le_refl _) (Nat.le_succ n) hL hr) (Nat.le_refl _) n n _ _ m _ _ _ _ _ (Nat.le_refl _) (Nat.le_refl _) hn
/-- what a call asks of the two methods alone -/
def cok (m a b n : Nat) : Bool := decide (b ≠ 5) && decide (naC b a = n) && decide (FDp a + 1 ≤ FDp m) && decide (19 + mxM a + LDp a ≤ LDp m)
theorem rn_c {I : Instr} {n : Nat} {st0 as : List MV} {v : Option MV} (hc : code_ m pc = some (I, np, a, b, c)) (hk : kindI I = 2) (ho : cok m a b n = true) (hn : as.length = n) (hst : st0 = as.reverse ++ st) (hs : csum st ≤ 8) (hr : recvOK b a as h = true)
    (sp : Sp xs a as h v h1) (k : Rn xs m np ls (pushR v st) h1 r h') : Rn xs m pc ls st0 h r h' := by
  subst hst
  obtain ⟨n1, e1⟩ := sp
  obtain ⟨n2, e2⟩ := k
  simp only [cok, Bool.and_eq_true, decide_eq_true_eq] at ho
  obtain ⟨⟨⟨o1, o2⟩, o3⟩, o4⟩ := ho
  refine ⟨n1 + n2 + 1, ?_⟩
  unfold goN
  rw [hc]
  dsimp only
  rw [if_neg (by rw [hk]; decide), if_pos hk]
  have hl : as.reverse.length = naC b a := by rw [List.length_reverse, hn, o2]
  have t1 : (as.reverse ++ st).take (naC b a) = as.reverse := by rw [← hl]; exact List.take_left
  have t2 : (as.reverse ++ st).drop (naC b a) = st := by rw [← hl]; exact List.drop_left
  simp only [mcall]
  rw [if_neg o1, t1, t2, List.reverse_reverse]
  rw [if_pos ⟨by rw [List.length_append, hl]; omega, hs, by omega, hr⟩]
  rw [exec_mono _ _ _ (n1 + n2 + 1) _ (LDp m - (19 + mxM a)) a as h _ o3 (by omega) (by omega) e1]
  exact goN_mono (fun L L' a as h r hL hr => exec_mono _ _ _ _ L L' a as h r (Nat.le_refl _) (by omega) hL hr) (Nat.le_refl _) n2 _ _ _ m _ _ _ _ _ (by omega) (Nat.le_refl _) e2
end RowsOf
