-- rows of the small machine, one for each kind of instruction
abbrev at_ (l : List Int) (j : Int) : Int := l.getD j.toNat 0
def bp (P : Prop) [d9 : Decidable P] : Int := if P then 1 else 0
def isL : MV → Bool
  | .inr (.inl _) => true
  | _ => false
theorem mClean_no {ls : List MV} {j : Nat} {x : MV} (h : ls[j]? = some x) (hx : isL x = false) : mClean ls (j + 1) = ls := by
  show (match ls[j]? with
    | some (.inr (.inl _)) => ls.set j vU
    | _ => ls) = ls
  rw [h]
  rcases x with z | z | z | z | z <;> first | rfl | (simp [isL] at hx; done)
section RW
variable {xs : List Int} {m pc np a b : Nat} {c : Int} {ls st : List MV} {h h1 h' : MH} {r : Option MV} {x y z : Int} {v v0 v1 v2 v3 v4 v5 v6 : MV}

theorem r_iconst (hc : code_ m pc = some (.iconst x, np, a, b, c)) (k : Rn xs m np ls (vI x :: st) h r h') : Rn xs m pc ls (st) h r h' := rn_s hc rfl (rfl) k
theorem r_bipush (hc : code_ m pc = some (.bipush x, np, a, b, c)) (k : Rn xs m np ls (vI x :: st) h r h') : Rn xs m pc ls (st) h r h' := rn_s hc rfl (rfl) k
theorem r_sipush (hc : code_ m pc = some (.sipush x, np, a, b, c)) (k : Rn xs m np ls (vI x :: st) h r h') : Rn xs m pc ls (st) h r h' := rn_s hc rfl (rfl) k
theorem r_ldc {ix : Nat} (hc : code_ m pc = some (.ldc ix, np, a, b, c)) (k : Rn xs m np ls (vI c :: st) h r h') : Rn xs m pc ls (st) h r h' := rn_s hc rfl (rfl) k
theorem r_ldc_w {ix : Nat} (hc : code_ m pc = some (.ldc_w ix, np, a, b, c)) (k : Rn xs m np ls (vI c :: st) h r h') : Rn xs m pc ls (st) h r h' := rn_s hc rfl (rfl) k
theorem r_ldc2_w {ix : Nat} (hc : code_ m pc = some (.ldc2_w ix, np, a, b, c)) (k : Rn xs m np ls (vL c :: st) h r h') : Rn xs m pc ls (st) h r h' := rn_s hc rfl (rfl) k
theorem r_lconst0 (hc : code_ m pc = some (.lconst 0, np, a, b, c)) (k : Rn xs m np ls (vL 0 :: st) h r h') : Rn xs m pc ls (st) h r h' := rn_s hc rfl (rfl) k
theorem r_lconst1 (hc : code_ m pc = some (.lconst 1, np, a, b, c)) (k : Rn xs m np ls (vL 1 :: st) h r h') : Rn xs m pc ls (st) h r h' := rn_s hc rfl (rfl) k
theorem r_iload {i : Nat} (hc : code_ m pc = some (.iload i, np, a, b, c)) (hl : ls[i]? = some (vI x)) (k : Rn xs m np ls (vI x :: st) h r h') : Rn xs m pc ls (st) h r h' := rn_s hc rfl (by simp only [sstep, ldI, hl]) k
theorem r_iload_n {i : Fin 4} (hc : code_ m pc = some (.iload_n i, np, a, b, c)) (hl : ls[i.val]? = some (vI x)) (k : Rn xs m np ls (vI x :: st) h r h') : Rn xs m pc ls (st) h r h' := rn_s hc rfl (by simp only [sstep, ldI, hl]) k
theorem r_lload {i : Nat} (hc : code_ m pc = some (.lload i, np, a, b, c)) (hl : ls[i]? = some (vL x)) (k : Rn xs m np ls (vL x :: st) h r h') : Rn xs m pc ls (st) h r h' := rn_s hc rfl (by simp only [sstep, ldL, hl]) k
theorem r_lload_n {i : Fin 4} (hc : code_ m pc = some (.lload_n i, np, a, b, c)) (hl : ls[i.val]? = some (vL x)) (k : Rn xs m np ls (vL x :: st) h r h') : Rn xs m pc ls (st) h r h' := rn_s hc rfl (by simp only [sstep, ldL, hl]) k
theorem r_aload {i q : Nat} (hc : code_ m pc = some (.aload i, np, a, b, c)) (hl : ls[i]? = some (vR q)) (k : Rn xs m np ls (vR q :: st) h r h') : Rn xs m pc ls (st) h r h' := rn_s hc rfl (by simp only [sstep, ldA, hl]) k
theorem r_aload_n {i : Fin 4} {q : Nat} (hc : code_ m pc = some (.aload_n i, np, a, b, c)) (hl : ls[i.val]? = some (vR q)) (k : Rn xs m np ls (vR q :: st) h r h') : Rn xs m pc ls (st) h r h' := rn_s hc rfl (by simp only [sstep, ldA, hl]) k
theorem r_aloadS {i q : Nat} (hc : code_ m pc = some (.aload i, np, a, b, c)) (hl : ls[i]? = some (vS q)) (k : Rn xs m np ls (vS q :: st) h r h') : Rn xs m pc ls (st) h r h' := rn_s hc rfl (by simp only [sstep, ldA, hl]) k
theorem r_aloadS_n {i : Fin 4} {q : Nat} (hc : code_ m pc = some (.aload_n i, np, a, b, c)) (hl : ls[i.val]? = some (vS q)) (k : Rn xs m np ls (vS q :: st) h r h') : Rn xs m pc ls (st) h r h' := rn_s hc rfl (by simp only [sstep, ldA, hl]) k
theorem r_iadd (hc : code_ m pc = some (.iadd, np, a, b, c)) (k : Rn xs m np ls (vI (x + y) :: st) h r h') : Rn xs m pc ls (vI y :: vI x :: st) h r h' := rn_s hc rfl (rfl) k
theorem r_isub (hc : code_ m pc = some (.isub, np, a, b, c)) (k : Rn xs m np ls (vI (x - y) :: st) h r h') : Rn xs m pc ls (vI y :: vI x :: st) h r h' := rn_s hc rfl (rfl) k
theorem r_imul (hc : code_ m pc = some (.imul, np, a, b, c)) (k : Rn xs m np ls (vI (x * y) :: st) h r h') : Rn xs m pc ls (vI y :: vI x :: st) h r h' := rn_s hc rfl (rfl) k
theorem r_iand (hc : code_ m pc = some (.iand, np, a, b, c)) (k : Rn xs m np ls (vI (bAnd x y) :: st) h r h') : Rn xs m pc ls (vI y :: vI x :: st) h r h' := rn_s hc rfl (rfl) k
theorem r_ior (hc : code_ m pc = some (.ior, np, a, b, c)) (k : Rn xs m np ls (vI (bOr x y) :: st) h r h') : Rn xs m pc ls (vI y :: vI x :: st) h r h' := rn_s hc rfl (rfl) k
theorem r_ixor (hc : code_ m pc = some (.ixor, np, a, b, c)) (k : Rn xs m np ls (vI (bXor x y) :: st) h r h') : Rn xs m pc ls (vI y :: vI x :: st) h r h' := rn_s hc rfl (rfl) k
theorem r_ishl (hc : code_ m pc = some (.ishl, np, a, b, c)) (k : Rn xs m np ls (vI (bShl x y) :: st) h r h') : Rn xs m pc ls (vI y :: vI x :: st) h r h' := rn_s hc rfl (rfl) k
theorem r_ishr (hc : code_ m pc = some (.ishr, np, a, b, c)) (k : Rn xs m np ls (vI (bShr x y) :: st) h r h') : Rn xs m pc ls (vI y :: vI x :: st) h r h' := rn_s hc rfl (rfl) k
theorem r_iushr (hc : code_ m pc = some (.iushr, np, a, b, c)) (k : Rn xs m np ls (vI (bUsh x y) :: st) h r h') : Rn xs m pc ls (vI y :: vI x :: st) h r h' := rn_s hc rfl (rfl) k
theorem r_ladd (hc : code_ m pc = some (.ladd, np, a, b, c)) (k : Rn xs m np ls (vL (x + y) :: st) h r h') : Rn xs m pc ls (vL y :: vL x :: st) h r h' := rn_s hc rfl (rfl) k
theorem r_lsub (hc : code_ m pc = some (.lsub, np, a, b, c)) (k : Rn xs m np ls (vL (x - y) :: st) h r h') : Rn xs m pc ls (vL y :: vL x :: st) h r h' := rn_s hc rfl (rfl) k
theorem r_lmul (hc : code_ m pc = some (.lmul, np, a, b, c)) (k : Rn xs m np ls (vL (x * y) :: st) h r h') : Rn xs m pc ls (vL y :: vL x :: st) h r h' := rn_s hc rfl (rfl) k
theorem r_ineg (hc : code_ m pc = some (.ineg, np, a, b, c)) (k : Rn xs m np ls (vI (-x) :: st) h r h') : Rn xs m pc ls (vI x :: st) h r h' := rn_s hc rfl (rfl) k
theorem r_lneg (hc : code_ m pc = some (.lneg, np, a, b, c)) (k : Rn xs m np ls (vL (-x) :: st) h r h') : Rn xs m pc ls (vL x :: st) h r h' := rn_s hc rfl (rfl) k
theorem r_idiv (hc : code_ m pc = some (.idiv, np, a, b, c)) (hx : inR x) (hy : inR y) (h0 : y ≠ 0) (k : Rn xs m np ls (vI (x.tdiv y) :: st) h r h') : Rn xs m pc ls (vI y :: vI x :: st) h r h' := rn_s hc rfl (by simp only [sstep, s2]; rw [if_pos ⟨hx, hy, h0⟩]) k
theorem r_irem (hc : code_ m pc = some (.irem, np, a, b, c)) (hx : inR x) (hy : inR y) (h0 : y ≠ 0) (k : Rn xs m np ls (vI (x.tmod y) :: st) h r h') : Rn xs m pc ls (vI y :: vI x :: st) h r h' := rn_s hc rfl (by simp only [sstep, s2]; rw [if_pos ⟨hx, hy, h0⟩]) k
theorem r_ldiv (hc : code_ m pc = some (.ldiv, np, a, b, c)) (hx : inL x) (hy : inL y) (h0 : y ≠ 0) (k : Rn xs m np ls (vL (x.tdiv y) :: st) h r h') : Rn xs m pc ls (vL y :: vL x :: st) h r h' := rn_s hc rfl (by simp only [sstep, l2]; rw [if_pos ⟨hx, hy, h0⟩]) k
theorem r_lrem (hc : code_ m pc = some (.lrem, np, a, b, c)) (hx : inL x) (hy : inL y) (h0 : y ≠ 0) (k : Rn xs m np ls (vL (x.tmod y) :: st) h r h') : Rn xs m pc ls (vL y :: vL x :: st) h r h' := rn_s hc rfl (by simp only [sstep, l2]; rw [if_pos ⟨hx, hy, h0⟩]) k
theorem r_i2l (hc : code_ m pc = some (.i2l, np, a, b, c)) (hx : inR x) (k : Rn xs m np ls (vL x :: st) h r h') : Rn xs m pc ls (vI x :: st) h r h' := rn_s hc rfl (by simp only [sstep, s1]; rw [if_pos hx]) k
theorem r_lcmp (hc : code_ m pc = some (.lcmp, np, a, b, c)) (hx : inL x) (hy : inL y) (k : Rn xs m np ls (vI (lcm x y) :: st) h r h') : Rn xs m pc ls (vL y :: vL x :: st) h r h' := rn_s hc rfl (by simp only [sstep, l2]; rw [if_pos ⟨hx, hy⟩]) k
theorem r_dup (hc : code_ m pc = some (.dup, np, a, b, c)) (hv : mcat v = 1) (k : Rn xs m np ls (v :: v :: st) h r h') : Rn xs m pc ls (v :: st) h r h' := rn_s hc rfl (by simp only [sstep]; rw [if_pos hv]) k
theorem r_dup2 (hc : code_ m pc = some (.dup2, np, a, b, c)) (hv : mcat v0 = 1) (hw : mcat v1 = 1) (k : Rn xs m np ls (v0 :: v1 :: v0 :: v1 :: st) h r h') : Rn xs m pc ls (v0 :: v1 :: st) h r h' := rn_s hc rfl (by simp only [sstep]; rw [if_pos ⟨hv, hw⟩]) k
theorem r_goto {off : Int} (hc : code_ m pc = some (.goto off, np, a, b, c)) (k : Rn xs m a ls (st) h r h') : Rn xs m pc ls (st) h r h' := rn_s hc rfl (rfl) k
theorem r_ifnonnull {off : Int} {q : Nat} (hc : code_ m pc = some (.ifnonnull off, np, a, b, c)) (k : Rn xs m a ls (st) h r h') : Rn xs m pc ls (vR q :: st) h r h' := rn_s hc rfl (rfl) k
theorem r_ifnull {off : Int} {q : Nat} (hc : code_ m pc = some (.ifnull off, np, a, b, c)) (k : Rn xs m np ls (st) h r h') : Rn xs m pc ls (vR q :: st) h r h' := rn_s hc rfl (rfl) k
theorem r_getstatic {ix : Nat} (hc : code_ m pc = some (.getstatic ix, np, a, b, c)) (k : Rn xs m np ls (vS a :: st) h r h') : Rn xs m pc ls (st) h r h' := rn_s hc rfl (rfl) k
theorem r_getfield {ix q : Nat} {fs : List MV} (hc : code_ m pc = some (.getfield ix, np, a, b, c)) (hq : h[q]? = some (.inl (a, fs))) (hf : fs[b]? = some v) (k : Rn xs m np ls (v :: st) h r h') : Rn xs m pc ls (vR q :: st) h r h' := rn_s hc rfl (by simp only [sstep, hq, hf, if_true]) k
theorem r_putfield {ix q : Nat} {fs : List MV} (hc : code_ m pc = some (.putfield ix, np, a, b, c)) (hq : h[q]? = some (.inl (a, fs))) (hl : b < fs.length) (hk : fkind c v = true) (k : Rn xs m np ls (st) (h.set q (.inl (a, fs.set b v))) r h') : Rn xs m pc ls (v :: vR q :: st) h r h' := rn_s hc rfl (by simp only [sstep, hq]; rw [if_pos ⟨trivial, hl, hk⟩]) k
theorem r_iaload {q : Nat} {l : List Int} {N : Int} (hc : code_ m pc = some (.iaload, np, a, b, c)) (hq : h[q]? = some (.inr (0, l))) (hN : (l.length : Int) = N) (h0 : 0 ≤ x) (hl : x < N) (h2 : x ≤ 2147483647) (k : Rn xs m np ls (vI (at_ l x) :: st) h r h') : Rn xs m pc ls (vI x :: vR q :: st) h r h' := rn_s hc rfl (by subst hN; simp only [sstep, aGet, hq]; rw [if_pos ⟨trivial, h0, hl, h2⟩]) k
theorem r_laload {q : Nat} {l : List Int} {N : Int} (hc : code_ m pc = some (.laload, np, a, b, c)) (hq : h[q]? = some (.inr (1, l))) (hN : (l.length : Int) = N) (h0 : 0 ≤ x) (hl : x < N) (h2 : x ≤ 2147483647) (k : Rn xs m np ls (vL (at_ l x) :: st) h r h') : Rn xs m pc ls (vI x :: vR q :: st) h r h' := rn_s hc rfl (by subst hN; simp only [sstep, aGet, hq]; rw [if_pos ⟨trivial, h0, hl, h2⟩]) k
theorem r_baload {q : Nat} {l : List Int} {N : Int} (hc : code_ m pc = some (.baload, np, a, b, c)) (hq : h[q]? = some (.inr (2, l))) (hN : (l.length : Int) = N) (h0 : 0 ≤ x) (hl : x < N) (h2 : x ≤ 2147483647) (k : Rn xs m np ls (vI (at_ l x) :: st) h r h') : Rn xs m pc ls (vI x :: vR q :: st) h r h' := rn_s hc rfl (by subst hN; simp only [sstep, aGet, hq]; rw [if_pos ⟨trivial, h0, hl, h2⟩]) k
theorem r_ialoadS {q : Nat} {l : List Int} {N : Int} (hc : code_ m pc = some (.iaload, np, a, b, c)) (hs : SA xs q = l) (h4 : q < 4) (hN : (l.length : Int) = N) (h0 : 0 ≤ x) (hl : x < N) (h2 : x ≤ 2147483647) (k : Rn xs m np ls (vI (at_ l x) :: st) h r h') : Rn xs m pc ls (vI x :: vS q :: st) h r h' := rn_s hc rfl (by subst hN; subst hs; simp only [sstep, aGet]; rw [if_pos ⟨trivial, h4, h0, hl, h2⟩]) k
theorem r_iastore {q : Nat} {l : List Int} {N : Int} (hc : code_ m pc = some (.iastore, np, a, b, c)) (hq : h[q]? = some (.inr (0, l))) (hN : (l.length : Int) = N) (h0 : 0 ≤ x) (hl : x < N) (h2 : x ≤ 2147483647) (k : Rn xs m np ls (st) (h.set q (.inr (0, l.set x.toNat z))) r h') : Rn xs m pc ls (vI z :: vI x :: vR q :: st) h r h' := rn_s hc rfl (by subst hN; simp only [sstep, aPut, hq]; rw [if_pos ⟨trivial, h0, hl, h2⟩]) k
theorem r_lastore {q : Nat} {l : List Int} {N : Int} (hc : code_ m pc = some (.lastore, np, a, b, c)) (hq : h[q]? = some (.inr (1, l))) (hN : (l.length : Int) = N) (h0 : 0 ≤ x) (hl : x < N) (h2 : x ≤ 2147483647) (k : Rn xs m np ls (st) (h.set q (.inr (1, l.set x.toNat z))) r h') : Rn xs m pc ls (vL z :: vI x :: vR q :: st) h r h' := rn_s hc rfl (by subst hN; simp only [sstep, aPut, hq]; rw [if_pos ⟨trivial, h0, hl, h2⟩]) k
theorem r_bastore {q : Nat} {l : List Int} {N : Int} (hc : code_ m pc = some (.bastore, np, a, b, c)) (hq : h[q]? = some (.inr (2, l))) (hN : (l.length : Int) = N) (h0 : 0 ≤ x) (hl : x < N) (h2 : x ≤ 2147483647) (hz : z = 0 ∨ z = 1) (k : Rn xs m np ls (st) (h.set q (.inr (2, l.set x.toNat z))) r h') : Rn xs m pc ls (vI z :: vI x :: vR q :: st) h r h' := rn_s hc rfl (by subst hN; simp only [sstep, aPut, hq]; rw [if_pos hz, if_pos ⟨trivial, h0, hl, h2⟩]) k
theorem r_arraylength {q kd : Nat} {l : List Int} {N : Int} (hc : code_ m pc = some (.arraylength, np, a, b, c)) (hq : h[q]? = some (.inr (kd, l))) (hN : (l.length : Int) = N) (k : Rn xs m np ls (vI N :: st) h r h') : Rn xs m pc ls (vR q :: st) h r h' := rn_s hc rfl (by subst hN; simp only [sstep, hq]) k
theorem r_arraylengthS {q : Nat} {l : List Int} {N : Int} (hc : code_ m pc = some (.arraylength, np, a, b, c)) (hs : SA xs q = l) (h4 : q < 4) (hN : (l.length : Int) = N) (k : Rn xs m np ls (vI N :: st) h r h') : Rn xs m pc ls (vS q :: st) h r h' := rn_s hc rfl (by subst hN; subst hs; simp only [sstep]; rw [if_pos h4]) k
theorem r_newarray_int (hc : code_ m pc = some (.newarray .int, np, a, b, c)) (h0 : 0 ≤ x) (hl : x ≤ 1000000) (k : Rn xs m np ls (vR h.length :: st) (h ++ [.inr (0, List.replicate x.toNat 0)]) r h') : Rn xs m pc ls (vI x :: st) h r h' := rn_s hc rfl (by simp only [sstep, s1]; rw [if_pos ⟨h0, hl⟩]) k
theorem r_newarray_long (hc : code_ m pc = some (.newarray .long, np, a, b, c)) (h0 : 0 ≤ x) (hl : x ≤ 1000000) (k : Rn xs m np ls (vR h.length :: st) (h ++ [.inr (1, List.replicate x.toNat 0)]) r h') : Rn xs m pc ls (vI x :: st) h r h' := rn_s hc rfl (by simp only [sstep, s1]; rw [if_pos ⟨h0, hl⟩]) k
theorem r_newarray_boolean (hc : code_ m pc = some (.newarray .boolean, np, a, b, c)) (h0 : 0 ≤ x) (hl : x ≤ 1000000) (k : Rn xs m np ls (vR h.length :: st) (h ++ [.inr (2, List.replicate x.toNat 0)]) r h') : Rn xs m pc ls (vI x :: st) h r h' := rn_s hc rfl (by simp only [sstep, s1]; rw [if_pos ⟨h0, hl⟩]) k
theorem r_new {ix : Nat} (hc : code_ m pc = some (.new ix, np, a, b, c)) (k : Rn xs m np ls (vR h.length :: st) (h ++ [.inl (a, dfC a)]) r h') : Rn xs m pc ls (st) h r h' := rn_s hc rfl (rfl) k
theorem r_icmp_eq {off : Int} (hc : code_ m pc = some (.if_icmp .eq off, np, a, b, c)) (hx : inR x) (hy : inR y) (kt : x = y → Rn xs m a ls st h r h') (kf : x ≠ y → Rn xs m np ls st h r h') : Rn xs m pc ls (vI y :: vI x :: st) h r h' := by
  by_cases hq : cmpZ .eq x y = true
  · exact rn_s hc rfl (by simp only [sstep, s2]; rw [if_pos ⟨hx, hy⟩, if_pos hq]) (kt (by simp [cmpZ] at hq; omega))
  · exact rn_s hc rfl (by simp only [sstep, s2]; rw [if_pos ⟨hx, hy⟩, if_neg hq]) (kf (by simp [cmpZ] at hq; omega))
theorem r_if_eq {off : Int} (hc : code_ m pc = some (.ifCond .eq off, np, a, b, c)) (hx : inR x) (kt : x = 0 → Rn xs m a ls st h r h') (kf : x ≠ 0 → Rn xs m np ls st h r h') : Rn xs m pc ls (vI x :: st) h r h' := by
  by_cases hq : cmpZ .eq x 0 = true
  · exact rn_s hc rfl (by simp only [sstep, s1]; rw [if_pos hx, if_pos hq]) (kt (by simp [cmpZ] at hq; omega))
  · exact rn_s hc rfl (by simp only [sstep, s1]; rw [if_pos hx, if_neg hq]) (kf (by simp [cmpZ] at hq; omega))
theorem r_icmp_ne {off : Int} (hc : code_ m pc = some (.if_icmp .ne off, np, a, b, c)) (hx : inR x) (hy : inR y) (kt : x ≠ y → Rn xs m a ls st h r h') (kf : x = y → Rn xs m np ls st h r h') : Rn xs m pc ls (vI y :: vI x :: st) h r h' := by
  by_cases hq : cmpZ .ne x y = true
  · exact rn_s hc rfl (by simp only [sstep, s2]; rw [if_pos ⟨hx, hy⟩, if_pos hq]) (kt (by simp [cmpZ] at hq; omega))
  · exact rn_s hc rfl (by simp only [sstep, s2]; rw [if_pos ⟨hx, hy⟩, if_neg hq]) (kf (by simp [cmpZ] at hq; omega))
theorem r_if_ne {off : Int} (hc : code_ m pc = some (.ifCond .ne off, np, a, b, c)) (hx : inR x) (kt : x ≠ 0 → Rn xs m a ls st h r h') (kf : x = 0 → Rn xs m np ls st h r h') : Rn xs m pc ls (vI x :: st) h r h' := by
  by_cases hq : cmpZ .ne x 0 = true
  · exact rn_s hc rfl (by simp only [sstep, s1]; rw [if_pos hx, if_pos hq]) (kt (by simp [cmpZ] at hq; omega))
  · exact rn_s hc rfl (by simp only [sstep, s1]; rw [if_pos hx, if_neg hq]) (kf (by simp [cmpZ] at hq; omega))
theorem r_icmp_lt {off : Int} (hc : code_ m pc = some (.if_icmp .lt off, np, a, b, c)) (hx : inR x) (hy : inR y) (kt : x < y → Rn xs m a ls st h r h') (kf : y ≤ x → Rn xs m np ls st h r h') : Rn xs m pc ls (vI y :: vI x :: st) h r h' := by
  by_cases hq : cmpZ .lt x y = true
  · exact rn_s hc rfl (by simp only [sstep, s2]; rw [if_pos ⟨hx, hy⟩, if_pos hq]) (kt (by simp [cmpZ] at hq; omega))
  · exact rn_s hc rfl (by simp only [sstep, s2]; rw [if_pos ⟨hx, hy⟩, if_neg hq]) (kf (by simp [cmpZ] at hq; omega))
theorem r_if_lt {off : Int} (hc : code_ m pc = some (.ifCond .lt off, np, a, b, c)) (hx : inR x) (kt : x < 0 → Rn xs m a ls st h r h') (kf : 0 ≤ x → Rn xs m np ls st h r h') : Rn xs m pc ls (vI x :: st) h r h' := by
  by_cases hq : cmpZ .lt x 0 = true
  · exact rn_s hc rfl (by simp only [sstep, s1]; rw [if_pos hx, if_pos hq]) (kt (by simp [cmpZ] at hq; omega))
  · exact rn_s hc rfl (by simp only [sstep, s1]; rw [if_pos hx, if_neg hq]) (kf (by simp [cmpZ] at hq; omega))
theorem r_icmp_ge {off : Int} (hc : code_ m pc = some (.if_icmp .ge off, np, a, b, c)) (hx : inR x) (hy : inR y) (kt : y ≤ x → Rn xs m a ls st h r h') (kf : x < y → Rn xs m np ls st h r h') : Rn xs m pc ls (vI y :: vI x :: st) h r h' := by
  by_cases hq : cmpZ .ge x y = true
  · exact rn_s hc rfl (by simp only [sstep, s2]; rw [if_pos ⟨hx, hy⟩, if_pos hq]) (kt (by simp [cmpZ] at hq; omega))
  · exact rn_s hc rfl (by simp only [sstep, s2]; rw [if_pos ⟨hx, hy⟩, if_neg hq]) (kf (by simp [cmpZ] at hq; omega))
theorem r_if_ge {off : Int} (hc : code_ m pc = some (.ifCond .ge off, np, a, b, c)) (hx : inR x) (kt : 0 ≤ x → Rn xs m a ls st h r h') (kf : x < 0 → Rn xs m np ls st h r h') : Rn xs m pc ls (vI x :: st) h r h' := by
  by_cases hq : cmpZ .ge x 0 = true
  · exact rn_s hc rfl (by simp only [sstep, s1]; rw [if_pos hx, if_pos hq]) (kt (by simp [cmpZ] at hq; omega))
  · exact rn_s hc rfl (by simp only [sstep, s1]; rw [if_pos hx, if_neg hq]) (kf (by simp [cmpZ] at hq; omega))
theorem r_icmp_gt {off : Int} (hc : code_ m pc = some (.if_icmp .gt off, np, a, b, c)) (hx : inR x) (hy : inR y) (kt : y < x → Rn xs m a ls st h r h') (kf : x ≤ y → Rn xs m np ls st h r h') : Rn xs m pc ls (vI y :: vI x :: st) h r h' := by
  by_cases hq : cmpZ .gt x y = true
  · exact rn_s hc rfl (by simp only [sstep, s2]; rw [if_pos ⟨hx, hy⟩, if_pos hq]) (kt (by simp [cmpZ] at hq; omega))
  · exact rn_s hc rfl (by simp only [sstep, s2]; rw [if_pos ⟨hx, hy⟩, if_neg hq]) (kf (by simp [cmpZ] at hq; omega))
theorem r_if_gt {off : Int} (hc : code_ m pc = some (.ifCond .gt off, np, a, b, c)) (hx : inR x) (kt : 0 < x → Rn xs m a ls st h r h') (kf : x ≤ 0 → Rn xs m np ls st h r h') : Rn xs m pc ls (vI x :: st) h r h' := by
  by_cases hq : cmpZ .gt x 0 = true
  · exact rn_s hc rfl (by simp only [sstep, s1]; rw [if_pos hx, if_pos hq]) (kt (by simp [cmpZ] at hq; omega))
  · exact rn_s hc rfl (by simp only [sstep, s1]; rw [if_pos hx, if_neg hq]) (kf (by simp [cmpZ] at hq; omega))
theorem r_icmp_le {off : Int} (hc : code_ m pc = some (.if_icmp .le off, np, a, b, c)) (hx : inR x) (hy : inR y) (kt : x ≤ y → Rn xs m a ls st h r h') (kf : y < x → Rn xs m np ls st h r h') : Rn xs m pc ls (vI y :: vI x :: st) h r h' := by
  by_cases hq : cmpZ .le x y = true
  · exact rn_s hc rfl (by simp only [sstep, s2]; rw [if_pos ⟨hx, hy⟩, if_pos hq]) (kt (by simp [cmpZ] at hq; omega))
  · exact rn_s hc rfl (by simp only [sstep, s2]; rw [if_pos ⟨hx, hy⟩, if_neg hq]) (kf (by simp [cmpZ] at hq; omega))
theorem r_if_le {off : Int} (hc : code_ m pc = some (.ifCond .le off, np, a, b, c)) (hx : inR x) (kt : x ≤ 0 → Rn xs m a ls st h r h') (kf : 0 < x → Rn xs m np ls st h r h') : Rn xs m pc ls (vI x :: st) h r h' := by
  by_cases hq : cmpZ .le x 0 = true
  · exact rn_s hc rfl (by simp only [sstep, s1]; rw [if_pos hx, if_pos hq]) (kt (by simp [cmpZ] at hq; omega))
  · exact rn_s hc rfl (by simp only [sstep, s1]; rw [if_pos hx, if_neg hq]) (kf (by simp [cmpZ] at hq; omega))
theorem bp_in (P : Prop) [d9 : Decidable P] : inR (bp P) := by
  unfold bp
  split <;> constructor <;> decide
theorem bp_t {P : Prop} [d9 : Decidable P] (h : P) : bp P = 1 := by unfold bp; rw [if_pos h]
theorem bp_f {P : Prop} [d9 : Decidable P] (h : ¬ P) : bp P = 0 := by unfold bp; rw [if_neg h]
theorem r_ifeq_p {off : Int} {P : Prop} [d9 : Decidable P] (hc : code_ m pc = some (.ifCond .eq off, np, a, b, c)) (kt : ¬ P → Rn xs m a ls st h r h') (kf : P → Rn xs m np ls st h r h') : Rn xs m pc ls (vI (bp P) :: st) h r h' := by
  refine r_if_eq hc (bp_in P) (fun q => kt (fun hp => ?_)) (fun q => kf ?_)
  · rw [bp_t hp] at q; omega
  · by_cases hp : P
    · exact hp
    · rw [bp_f hp] at q; exact absurd rfl q
theorem r_ifne_p {off : Int} {P : Prop} [d9 : Decidable P] (hc : code_ m pc = some (.ifCond .ne off, np, a, b, c)) (kt : P → Rn xs m a ls st h r h') (kf : ¬ P → Rn xs m np ls st h r h') : Rn xs m pc ls (vI (bp P) :: st) h r h' := by
  refine r_if_ne hc (bp_in P) (fun q => kt ?_) (fun q => kf (fun hp => ?_))
  · by_cases hp : P
    · exact hp
    · rw [bp_f hp] at q; exact absurd rfl q
  · rw [bp_t hp] at q; omega
theorem r_switch {d lo hi : Int} {offs : Array Int} {t : Nat} (hc : code_ m pc = some (.tableswitch d lo hi offs, np, a, b, c)) (hx : inR x) (ht : swT d lo hi offs.toList x = some ((t : Int) - (pc : Int))) (k : Rn xs m t ls st h r h') : Rn xs m pc ls (vI x :: st) h r h' := by
  refine rn_s hc rfl (?_ : _ = some (t, ls, st, h)) k
  simp only [sstep, s1]
  rw [if_pos hx, ht]
  simp only [jump]
  rw [if_pos (by omega)]
  congr 2
  omega
theorem r_lookup {d : Int} {ps : Array (Int × Int)} {t : Nat} (hc : code_ m pc = some (.lookupswitch d ps, np, a, b, c)) (hx : inR x) (hp : (ps.toList.zip (ps.toList.drop 1)).all (fun q => q.1.1 < q.2.1) = true) (ht : Op.lookupswitch.offset ps.toList d x = (t : Int) - (pc : Int)) (k : Rn xs m t ls st h r h') : Rn xs m pc ls (vI x :: st) h r h' := by
  refine rn_s hc rfl (?_ : _ = some (t, ls, st, h)) k
  simp only [sstep, s1]
  rw [if_pos ⟨hx, hp⟩, ht]
  simp only [jump]
  rw [if_pos (by omega)]
  congr 2
  omega
theorem r_iret (hc : code_ m pc = some (.ireturn, np, a, b, c)) (hr : retM m = some .int) (he : x = z) (hh : h = h') : Rn xs m pc ls [vI x] h (some (vI z)) h' := by
  subst he; subst hh
  exact rn_e hc rfl (by simp only [mret]; rw [if_pos (Or.inl hr)])
theorem r_zret (hc : code_ m pc = some (.ireturn, np, a, b, c)) (hr : retM m = some .boolean) {P : Prop} [d9 : Decidable P] (he : x = bp P) (hh : h = h') : Rn xs m pc ls [vI x] h (some (vI (bp P))) h' := by
  subst he; subst hh
  exact rn_e hc rfl (by simp only [mret]; rw [if_pos (Or.inr ⟨hr, by unfold bp; split <;> simp⟩)])
theorem r_lret (hc : code_ m pc = some (.lreturn, np, a, b, c)) (hr : retM m = some .long) (he : x = z) (hh : h = h') : Rn xs m pc ls [vL x] h (some (vL z)) h' := by
  subst he; subst hh
  exact rn_e hc rfl (by simp only [mret]; rw [if_pos hr])
theorem r_aret {q : Nat} {n : String} (hc : code_ m pc = some (.areturn, np, a, b, c)) (hr : retM m = some (.object n)) (hh : h = h') : Rn xs m pc ls [vR q] h (some (vR q)) h' := by
  subst hh
  exact rn_e hc rfl (by simp only [mret, hr])
theorem r_vret (hc : code_ m pc = some (.return_, np, a, b, c)) (hr : retM m = none) (hh : h = h') : Rn xs m pc ls [] h none h' := by
  subst hh
  exact rn_e hc rfl (by simp only [mret]; rw [if_pos hr])
theorem r_obj {I : Instr} {q : Nat} (hc : code_ m pc = some (I, np, a, 5, c)) (hk : kindI I = 2) (hF : 1 ≤ FDp m) (hL : 20 ≤ LDp m) (hs : csum st ≤ 8) (k : Rn xs m np ls st h r h') : Rn xs m pc ls (vR q :: st) h r h' := rn_o hc hk hF hL hs k

theorem r_cv0 {I : Instr} (hc : code_ m pc = some (I, np, a, b, c)) (hk : kindI I = 2) (ho : cok m a b 0 = true) (hb : (b == 0 || b == 3) = true) (hs : csum st ≤ 8) (sp : Sp xs a [] h (some v) h1) (k : Rn xs m np ls (v :: st) h1 r h') : Rn xs m pc ls (st) h r h' := rn_c hc hk ho rfl rfl hs (by unfold recvOK; rw [hb]; rfl) sp k
theorem r_cz0 {I : Instr} (hc : code_ m pc = some (I, np, a, b, c)) (hk : kindI I = 2) (ho : cok m a b 0 = true) (hb : (b == 0 || b == 3) = true) (hs : csum st ≤ 8) (sp : Sp xs a [] h (none) h1) (k : Rn xs m np ls (st) h1 r h') : Rn xs m pc ls (st) h r h' := rn_c hc hk ho rfl rfl hs (by unfold recvOK; rw [hb]; rfl) sp k
theorem r_vv0 {I : Instr} {q ci : Nat} {fs : List MV} (hc : code_ m pc = some (I, np, a, b, c)) (hk : kindI I = 2) (ho : cok m a b 1 = true) (hs : csum st ≤ 8) (hq : h[q]? = some (.inl (ci, fs))) (hci : ci = clsM a) (sp : Sp xs a [vR q] h (some v) h1) (k : Rn xs m np ls (v :: st) h1 r h') : Rn xs m pc ls (vR q :: st) h r h' := rn_c hc hk ho rfl rfl hs (by unfold recvOK; simp only [hq, hci]; simp) sp k
theorem r_vz0 {I : Instr} {q ci : Nat} {fs : List MV} (hc : code_ m pc = some (I, np, a, b, c)) (hk : kindI I = 2) (ho : cok m a b 1 = true) (hs : csum st ≤ 8) (hq : h[q]? = some (.inl (ci, fs))) (hci : ci = clsM a) (sp : Sp xs a [vR q] h (none) h1) (k : Rn xs m np ls (st) h1 r h') : Rn xs m pc ls (vR q :: st) h r h' := rn_c hc hk ho rfl rfl hs (by unfold recvOK; simp only [hq, hci]; simp) sp k
theorem r_cv1 {I : Instr} (hc : code_ m pc = some (I, np, a, b, c)) (hk : kindI I = 2) (ho : cok m a b 1 = true) (hb : (b == 0 || b == 3) = true) (hs : csum st ≤ 8) (sp : Sp xs a [v0] h (some v) h1) (k : Rn xs m np ls (v :: st) h1 r h') : Rn xs m pc ls (v0 :: st) h r h' := rn_c hc hk ho rfl rfl hs (by unfold recvOK; rw [hb]; rfl) sp k
theorem r_cz1 {I : Instr} (hc : code_ m pc = some (I, np, a, b, c)) (hk : kindI I = 2) (ho : cok m a b 1 = true) (hb : (b == 0 || b == 3) = true) (hs : csum st ≤ 8) (sp : Sp xs a [v0] h (none) h1) (k : Rn xs m np ls (st) h1 r h') : Rn xs m pc ls (v0 :: st) h r h' := rn_c hc hk ho rfl rfl hs (by unfold recvOK; rw [hb]; rfl) sp k
theorem r_vv1 {I : Instr} {q ci : Nat} {fs : List MV} (hc : code_ m pc = some (I, np, a, b, c)) (hk : kindI I = 2) (ho : cok m a b 2 = true) (hs : csum st ≤ 8) (hq : h[q]? = some (.inl (ci, fs))) (hci : ci = clsM a) (sp : Sp xs a [vR q, v0] h (some v) h1) (k : Rn xs m np ls (v :: st) h1 r h') : Rn xs m pc ls (v0 :: vR q :: st) h r h' := rn_c hc hk ho rfl rfl hs (by unfold recvOK; simp only [hq, hci]; simp) sp k
theorem r_vz1 {I : Instr} {q ci : Nat} {fs : List MV} (hc : code_ m pc = some (I, np, a, b, c)) (hk : kindI I = 2) (ho : cok m a b 2 = true) (hs : csum st ≤ 8) (hq : h[q]? = some (.inl (ci, fs))) (hci : ci = clsM a) (sp : Sp xs a [vR q, v0] h (none) h1) (k : Rn xs m np ls (st) h1 r h') : Rn xs m pc ls (v0 :: vR q :: st) h r h' := rn_c hc hk ho rfl rfl hs (by unfold recvOK; simp only [hq, hci]; simp) sp k
theorem r_cv2 {I : Instr} (hc : code_ m pc = some (I, np, a, b, c)) (hk : kindI I = 2) (ho : cok m a b 2 = true) (hb : (b == 0 || b == 3) = true) (hs : csum st ≤ 8) (sp : Sp xs a [v0, v1] h (some v) h1) (k : Rn xs m np ls (v :: st) h1 r h') : Rn xs m pc ls (v1 :: v0 :: st) h r h' := rn_c hc hk ho rfl rfl hs (by unfold recvOK; rw [hb]; rfl) sp k
theorem r_cz2 {I : Instr} (hc : code_ m pc = some (I, np, a, b, c)) (hk : kindI I = 2) (ho : cok m a b 2 = true) (hb : (b == 0 || b == 3) = true) (hs : csum st ≤ 8) (sp : Sp xs a [v0, v1] h (none) h1) (k : Rn xs m np ls (st) h1 r h') : Rn xs m pc ls (v1 :: v0 :: st) h r h' := rn_c hc hk ho rfl rfl hs (by unfold recvOK; rw [hb]; rfl) sp k
theorem r_vv2 {I : Instr} {q ci : Nat} {fs : List MV} (hc : code_ m pc = some (I, np, a, b, c)) (hk : kindI I = 2) (ho : cok m a b 3 = true) (hs : csum st ≤ 8) (hq : h[q]? = some (.inl (ci, fs))) (hci : ci = clsM a) (sp : Sp xs a [vR q, v0, v1] h (some v) h1) (k : Rn xs m np ls (v :: st) h1 r h') : Rn xs m pc ls (v1 :: v0 :: vR q :: st) h r h' := rn_c hc hk ho rfl rfl hs (by unfold recvOK; simp only [hq, hci]; simp) sp k
theorem r_vz2 {I : Instr} {q ci : Nat} {fs : List MV} (hc : code_ m pc = some (I, np, a, b, c)) (hk : kindI I = 2) (ho : cok m a b 3 = true) (hs : csum st ≤ 8) (hq : h[q]? = some (.inl (ci, fs))) (hci : ci = clsM a) (sp : Sp xs a [vR q, v0, v1] h (none) h1) (k : Rn xs m np ls (st) h1 r h') : Rn xs m pc ls (v1 :: v0 :: vR q :: st) h r h' := rn_c hc hk ho rfl rfl hs (by unfold recvOK; simp only [hq, hci]; simp) sp k
theorem r_cv3 {I : Instr} (hc : code_ m pc = some (I, np, a, b, c)) (hk : kindI I = 2) (ho : cok m a b 3 = true) (hb : (b == 0 || b == 3) = true) (hs : csum st ≤ 8) (sp : Sp xs a [v0, v1, v2] h (some v) h1) (k : Rn xs m np ls (v :: st) h1 r h') : Rn xs m pc ls (v2 :: v1 :: v0 :: st) h r h' := rn_c hc hk ho rfl rfl hs (by unfold recvOK; rw [hb]; rfl) sp k
theorem r_cz3 {I : Instr} (hc : code_ m pc = some (I, np, a, b, c)) (hk : kindI I = 2) (ho : cok m a b 3 = true) (hb : (b == 0 || b == 3) = true) (hs : csum st ≤ 8) (sp : Sp xs a [v0, v1, v2] h (none) h1) (k : Rn xs m np ls (st) h1 r h') : Rn xs m pc ls (v2 :: v1 :: v0 :: st) h r h' := rn_c hc hk ho rfl rfl hs (by unfold recvOK; rw [hb]; rfl) sp k
theorem r_vv3 {I : Instr} {q ci : Nat} {fs : List MV} (hc : code_ m pc = some (I, np, a, b, c)) (hk : kindI I = 2) (ho : cok m a b 4 = true) (hs : csum st ≤ 8) (hq : h[q]? = some (.inl (ci, fs))) (hci : ci = clsM a) (sp : Sp xs a [vR q, v0, v1, v2] h (some v) h1) (k : Rn xs m np ls (v :: st) h1 r h') : Rn xs m pc ls (v2 :: v1 :: v0 :: vR q :: st) h r h' := rn_c hc hk ho rfl rfl hs (by unfold recvOK; simp only [hq, hci]; simp) sp k
theorem r_vz3 {I : Instr} {q ci : Nat} {fs : List MV} (hc : code_ m pc = some (I, np, a, b, c)) (hk : kindI I = 2) (ho : cok m a b 4 = true) (hs : csum st ≤ 8) (hq : h[q]? = some (.inl (ci, fs))) (hci : ci = clsM a) (sp : Sp xs a [vR q, v0, v1, v2] h (none) h1) (k : Rn xs m np ls (st) h1 r h') : Rn xs m pc ls (v2 :: v1 :: v0 :: vR q :: st) h r h' := rn_c hc hk ho rfl rfl hs (by unfold recvOK; simp only [hq, hci]; simp) sp k
theorem r_cv4 {I : Instr} (hc : code_ m pc = some (I, np, a, b, c)) (hk : kindI I = 2) (ho : cok m a b 4 = true) (hb : (b == 0 || b == 3) = true) (hs : csum st ≤ 8) (sp : Sp xs a [v0, v1, v2, v3] h (some v) h1) (k : Rn xs m np ls (v :: st) h1 r h') : Rn xs m pc ls (v3 :: v2 :: v1 :: v0 :: st) h r h' := rn_c hc hk ho rfl rfl hs (by unfold recvOK; rw [hb]; rfl) sp k
theorem r_cz4 {I : Instr} (hc : code_ m pc = some (I, np, a, b, c)) (hk : kindI I = 2) (ho : cok m a b 4 = true) (hb : (b == 0 || b == 3) = true) (hs : csum st ≤ 8) (sp : Sp xs a [v0, v1, v2, v3] h (none) h1) (k : Rn xs m np ls (st) h1 r h') : Rn xs m pc ls (v3 :: v2 :: v1 :: v0 :: st) h r h' := rn_c hc hk ho rfl rfl hs (by unfold recvOK; rw [hb]; rfl) sp k
theorem r_vv4 {I : Instr} {q ci : Nat} {fs : List MV} (hc : code_ m pc = some (I, np, a, b, c)) (hk : kindI I = 2) (ho : cok m a b 5 = true) (hs : csum st ≤ 8) (hq : h[q]? = some (.inl (ci, fs))) (hci : ci = clsM a) (sp : Sp xs a [vR q, v0, v1, v2, v3] h (some v) h1) (k : Rn xs m np ls (v :: st) h1 r h') : Rn xs m pc ls (v3 :: v2 :: v1 :: v0 :: vR q :: st) h r h' := rn_c hc hk ho rfl rfl hs (by unfold recvOK; simp only [hq, hci]; simp) sp k
theorem r_vz4 {I : Instr} {q ci : Nat} {fs : List MV} (hc : code_ m pc = some (I, np, a, b, c)) (hk : kindI I = 2) (ho : cok m a b 5 = true) (hs : csum st ≤ 8) (hq : h[q]? = some (.inl (ci, fs))) (hci : ci = clsM a) (sp : Sp xs a [vR q, v0, v1, v2, v3] h (none) h1) (k : Rn xs m np ls (st) h1 r h') : Rn xs m pc ls (v3 :: v2 :: v1 :: v0 :: vR q :: st) h r h' := rn_c hc hk ho rfl rfl hs (by unfold recvOK; simp only [hq, hci]; simp) sp k
theorem r_cv5 {I : Instr} (hc : code_ m pc = some (I, np, a, b, c)) (hk : kindI I = 2) (ho : cok m a b 5 = true) (hb : (b == 0 || b == 3) = true) (hs : csum st ≤ 8) (sp : Sp xs a [v0, v1, v2, v3, v4] h (some v) h1) (k : Rn xs m np ls (v :: st) h1 r h') : Rn xs m pc ls (v4 :: v3 :: v2 :: v1 :: v0 :: st) h r h' := rn_c hc hk ho rfl rfl hs (by unfold recvOK; rw [hb]; rfl) sp k
theorem r_cz5 {I : Instr} (hc : code_ m pc = some (I, np, a, b, c)) (hk : kindI I = 2) (ho : cok m a b 5 = true) (hb : (b == 0 || b == 3) = true) (hs : csum st ≤ 8) (sp : Sp xs a [v0, v1, v2, v3, v4] h (none) h1) (k : Rn xs m np ls (st) h1 r h') : Rn xs m pc ls (v4 :: v3 :: v2 :: v1 :: v0 :: st) h r h' := rn_c hc hk ho rfl rfl hs (by unfold recvOK; rw [hb]; rfl) sp k
theorem r_vv5 {I : Instr} {q ci : Nat} {fs : List MV} (hc : code_ m pc = some (I, np, a, b, c)) (hk : kindI I = 2) (ho : cok m a b 6 = true) (hs : csum st ≤ 8) (hq : h[q]? = some (.inl (ci, fs))) (hci : ci = clsM a) (sp : Sp xs a [vR q, v0, v1, v2, v3, v4] h (some v) h1) (k : Rn xs m np ls (v :: st) h1 r h') : Rn xs m pc ls (v4 :: v3 :: v2 :: v1 :: v0 :: vR q :: st) h r h' := rn_c hc hk ho rfl rfl hs (by unfold recvOK; simp only [hq, hci]; simp) sp k
theorem r_vz5 {I : Instr} {q ci : Nat} {fs : List MV} (hc : code_ m pc = some (I, np, a, b, c)) (hk : kindI I = 2) (ho : cok m a b 6 = true) (hs : csum st ≤ 8) (hq : h[q]? = some (.inl (ci, fs))) (hci : ci = clsM a) (sp : Sp xs a [vR q, v0, v1, v2, v3, v4] h (none) h1) (k : Rn xs m np ls (st) h1 r h') : Rn xs m pc ls (v4 :: v3 :: v2 :: v1 :: v0 :: vR q :: st) h r h' := rn_c hc hk ho rfl rfl hs (by unfold recvOK; simp only [hq, hci]; simp) sp k
theorem r_cv6 {I : Instr} (hc : code_ m pc = some (I, np, a, b, c)) (hk : kindI I = 2) (ho : cok m a b 6 = true) (hb : (b == 0 || b == 3) = true) (hs : csum st ≤ 8) (sp : Sp xs a [v0, v1, v2, v3, v4, v5] h (some v) h1) (k : Rn xs m np ls (v :: st) h1 r h') : Rn xs m pc ls (v5 :: v4 :: v3 :: v2 :: v1 :: v0 :: st) h r h' := rn_c hc hk ho rfl rfl hs (by unfold recvOK; rw [hb]; rfl) sp k
theorem r_cz6 {I : Instr} (hc : code_ m pc = some (I, np, a, b, c)) (hk : kindI I = 2) (ho : cok m a b 6 = true) (hb : (b == 0 || b == 3) = true) (hs : csum st ≤ 8) (sp : Sp xs a [v0, v1, v2, v3, v4, v5] h (none) h1) (k : Rn xs m np ls (st) h1 r h') : Rn xs m pc ls (v5 :: v4 :: v3 :: v2 :: v1 :: v0 :: st) h r h' := rn_c hc hk ho rfl rfl hs (by unfold recvOK; rw [hb]; rfl) sp k
theorem r_vv6 {I : Instr} {q ci : Nat} {fs : List MV} (hc : code_ m pc = some (I, np, a, b, c)) (hk : kindI I = 2) (ho : cok m a b 7 = true) (hs : csum st ≤ 8) (hq : h[q]? = some (.inl (ci, fs))) (hci : ci = clsM a) (sp : Sp xs a [vR q, v0, v1, v2, v3, v4, v5] h (some v) h1) (k : Rn xs m np ls (v :: st) h1 r h') : Rn xs m pc ls (v5 :: v4 :: v3 :: v2 :: v1 :: v0 :: vR q :: st) h r h' := rn_c hc hk ho rfl rfl hs (by unfold recvOK; simp only [hq, hci]; simp) sp k
theorem r_vz6 {I : Instr} {q ci : Nat} {fs : List MV} (hc : code_ m pc = some (I, np, a, b, c)) (hk : kindI I = 2) (ho : cok m a b 7 = true) (hs : csum st ≤ 8) (hq : h[q]? = some (.inl (ci, fs))) (hci : ci = clsM a) (sp : Sp xs a [vR q, v0, v1, v2, v3, v4, v5] h (none) h1) (k : Rn xs m np ls (st) h1 r h') : Rn xs m pc ls (v5 :: v4 :: v3 :: v2 :: v1 :: v0 :: vR q :: st) h r h' := rn_c hc hk ho rfl rfl hs (by unfold recvOK; simp only [hq, hci]; simp) sp k
theorem r_astore3_2 {x0 x1 x2 : MV} {q : Nat} (hc : code_ m pc = some (.astore 2, np, a, b, c)) (hp : isL x1 = false) (kk : Rn xs m np [x0, x1, vR q] st h r h') : Rn xs m pc [x0, x1, x2] (vR q :: st) h r h' := rn_s hc rfl (by show some (np, mSt1 _ 2 (vR q), st, h) = _; unfold mSt1; rw [mClean_no (x := x1) rfl hp]; rfl) kk
theorem r_astoren3_2 {x0 x1 x2 : MV} {q : Nat} (hc : code_ m pc = some (.astore_n 2, np, a, b, c)) (hp : isL x1 = false) (kk : Rn xs m np [x0, x1, vR q] st h r h') : Rn xs m pc [x0, x1, x2] (vR q :: st) h r h' := rn_s hc rfl (by show some (np, mSt1 _ 2 (vR q), st, h) = _; unfold mSt1; rw [mClean_no (x := x1) rfl hp]; rfl) kk
theorem r_astore4_1 {x0 x1 x2 x3 : MV} {q : Nat} (hc : code_ m pc = some (.astore 1, np, a, b, c)) (hp : isL x0 = false) (kk : Rn xs m np [x0, vR q, x2, x3] st h r h') : Rn xs m pc [x0, x1, x2, x3] (vR q :: st) h r h' := rn_s hc rfl (by show some (np, mSt1 _ 1 (vR q), st, h) = _; unfold mSt1; rw [mClean_no (x := x0) rfl hp]; rfl) kk
theorem r_astoren4_1 {x0 x1 x2 x3 : MV} {q : Nat} (hc : code_ m pc = some (.astore_n 1, np, a, b, c)) (hp : isL x0 = false) (kk : Rn xs m np [x0, vR q, x2, x3] st h r h') : Rn xs m pc [x0, x1, x2, x3] (vR q :: st) h r h' := rn_s hc rfl (by show some (np, mSt1 _ 1 (vR q), st, h) = _; unfold mSt1; rw [mClean_no (x := x0) rfl hp]; rfl) kk
theorem r_astore4_2 {x0 x1 x2 x3 : MV} {q : Nat} (hc : code_ m pc = some (.astore 2, np, a, b, c)) (hp : isL x1 = false) (kk : Rn xs m np [x0, x1, vR q, x3] st h r h') : Rn xs m pc [x0, x1, x2, x3] (vR q :: st) h r h' := rn_s hc rfl (by show some (np, mSt1 _ 2 (vR q), st, h) = _; unfold mSt1; rw [mClean_no (x := x1) rfl hp]; rfl) kk
theorem r_astoren4_2 {x0 x1 x2 x3 : MV} {q : Nat} (hc : code_ m pc = some (.astore_n 2, np, a, b, c)) (hp : isL x1 = false) (kk : Rn xs m np [x0, x1, vR q, x3] st h r h') : Rn xs m pc [x0, x1, x2, x3] (vR q :: st) h r h' := rn_s hc rfl (by show some (np, mSt1 _ 2 (vR q), st, h) = _; unfold mSt1; rw [mClean_no (x := x1) rfl hp]; rfl) kk
theorem r_iinc2_1 {x0 : MV} {n : Int} (hc : code_ m pc = some (.iinc 1 n, np, a, b, c)) (hp : isL x0 = false) (kk : Rn xs m np [x0, vI (x + n)] st h r h') : Rn xs m pc [x0, vI x] st h r h' := rn_s hc rfl (by show some (np, mSt1 _ 1 (vI (x + n)), st, h) = _; unfold mSt1; rw [mClean_no (x := x0) rfl hp]; rfl) kk
theorem r_iinc3_2 {x0 x1 : MV} {n : Int} (hc : code_ m pc = some (.iinc 2 n, np, a, b, c)) (hp : isL x1 = false) (kk : Rn xs m np [x0, x1, vI (x + n)] st h r h') : Rn xs m pc [x0, x1, vI x] st h r h' := rn_s hc rfl (by show some (np, mSt1 _ 2 (vI (x + n)), st, h) = _; unfold mSt1; rw [mClean_no (x := x1) rfl hp]; rfl) kk
theorem r_iinc4_2 {x0 x1 x3 : MV} {n : Int} (hc : code_ m pc = some (.iinc 2 n, np, a, b, c)) (hp : isL x1 = false) (kk : Rn xs m np [x0, x1, vI (x + n), x3] st h r h') : Rn xs m pc [x0, x1, vI x, x3] st h r h' := rn_s hc rfl (by show some (np, mSt1 _ 2 (vI (x + n)), st, h) = _; unfold mSt1; rw [mClean_no (x := x1) rfl hp]; rfl) kk
theorem r_iinc4_3 {x0 x1 x2 : MV} {n : Int} (hc : code_ m pc = some (.iinc 3 n, np, a, b, c)) (hp : isL x2 = false) (kk : Rn xs m np [x0, x1, x2, vI (x + n)] st h r h') : Rn xs m pc [x0, x1, x2, vI x] st h r h' := rn_s hc rfl (by show some (np, mSt1 _ 3 (vI (x + n)), st, h) = _; unfold mSt1; rw [mClean_no (x := x2) rfl hp]; rfl) kk
theorem r_iinc5_3 {x0 x1 x2 x4 : MV} {n : Int} (hc : code_ m pc = some (.iinc 3 n, np, a, b, c)) (hp : isL x2 = false) (kk : Rn xs m np [x0, x1, x2, vI (x + n), x4] st h r h') : Rn xs m pc [x0, x1, x2, vI x, x4] st h r h' := rn_s hc rfl (by show some (np, mSt1 _ 3 (vI (x + n)), st, h) = _; unfold mSt1; rw [mClean_no (x := x2) rfl hp]; rfl) kk
theorem r_iinc5_4 {x0 x1 x2 x3 : MV} {n : Int} (hc : code_ m pc = some (.iinc 4 n, np, a, b, c)) (hp : isL x3 = false) (kk : Rn xs m np [x0, x1, x2, x3, vI (x + n)] st h r h') : Rn xs m pc [x0, x1, x2, x3, vI x] st h r h' := rn_s hc rfl (by show some (np, mSt1 _ 4 (vI (x + n)), st, h) = _; unfold mSt1; rw [mClean_no (x := x3) rfl hp]; rfl) kk
theorem r_iinc6_3 {x0 x1 x2 x4 x5 : MV} {n : Int} (hc : code_ m pc = some (.iinc 3 n, np, a, b, c)) (hp : isL x2 = false) (kk : Rn xs m np [x0, x1, x2, vI (x + n), x4, x5] st h r h') : Rn xs m pc [x0, x1, x2, vI x, x4, x5] st h r h' := rn_s hc rfl (by show some (np, mSt1 _ 3 (vI (x + n)), st, h) = _; unfold mSt1; rw [mClean_no (x := x2) rfl hp]; rfl) kk
theorem r_iinc6_4 {x0 x1 x2 x3 x5 : MV} {n : Int} (hc : code_ m pc = some (.iinc 4 n, np, a, b, c)) (hp : isL x3 = false) (kk : Rn xs m np [x0, x1, x2, x3, vI (x + n), x5] st h r h') : Rn xs m pc [x0, x1, x2, x3, vI x, x5] st h r h' := rn_s hc rfl (by show some (np, mSt1 _ 4 (vI (x + n)), st, h) = _; unfold mSt1; rw [mClean_no (x := x3) rfl hp]; rfl) kk
theorem r_iinc6_5 {x0 x1 x2 x3 x4 : MV} {n : Int} (hc : code_ m pc = some (.iinc 5 n, np, a, b, c)) (hp : isL x4 = false) (kk : Rn xs m np [x0, x1, x2, x3, x4, vI (x + n)] st h r h') : Rn xs m pc [x0, x1, x2, x3, x4, vI x] st h r h' := rn_s hc rfl (by show some (np, mSt1 _ 5 (vI (x + n)), st, h) = _; unfold mSt1; rw [mClean_no (x := x4) rfl hp]; rfl) kk
theorem r_iinc7_4 {x0 x1 x2 x3 x5 x6 : MV} {n : Int} (hc : code_ m pc = some (.iinc 4 n, np, a, b, c)) (hp : isL x3 = false) (kk : Rn xs m np [x0, x1, x2, x3, vI (x + n), x5, x6] st h r h') : Rn xs m pc [x0, x1, x2, x3, vI x, x5, x6] st h r h' := rn_s hc rfl (by show some (np, mSt1 _ 4 (vI (x + n)), st, h) = _; unfold mSt1; rw [mClean_no (x := x3) rfl hp]; rfl) kk
theorem r_iinc7_5 {x0 x1 x2 x3 x4 x6 : MV} {n : Int} (hc : code_ m pc = some (.iinc 5 n, np, a, b, c)) (hp : isL x4 = false) (kk : Rn xs m np [x0, x1, x2, x3, x4, vI (x + n), x6] st h r h') : Rn xs m pc [x0, x1, x2, x3, x4, vI x, x6] st h r h' := rn_s hc rfl (by show some (np, mSt1 _ 5 (vI (x + n)), st, h) = _; unfold mSt1; rw [mClean_no (x := x4) rfl hp]; rfl) kk
theorem r_iinc7_6 {x0 x1 x2 x3 x4 x5 : MV} {n : Int} (hc : code_ m pc = some (.iinc 6 n, np, a, b, c)) (hp : isL x5 = false) (kk : Rn xs m np [x0, x1, x2, x3, x4, x5, vI (x + n)] st h r h') : Rn xs m pc [x0, x1, x2, x3, x4, x5, vI x] st h r h' := rn_s hc rfl (by show some (np, mSt1 _ 6 (vI (x + n)), st, h) = _; unfold mSt1; rw [mClean_no (x := x5) rfl hp]; rfl) kk
theorem r_iinc8_5 {x0 x1 x2 x3 x4 x6 x7 : MV} {n : Int} (hc : code_ m pc = some (.iinc 5 n, np, a, b, c)) (hp : isL x4 = false) (kk : Rn xs m np [x0, x1, x2, x3, x4, vI (x + n), x6, x7] st h r h') : Rn xs m pc [x0, x1, x2, x3, x4, vI x, x6, x7] st h r h' := rn_s hc rfl (by show some (np, mSt1 _ 5 (vI (x + n)), st, h) = _; unfold mSt1; rw [mClean_no (x := x4) rfl hp]; rfl) kk
theorem r_iinc8_6 {x0 x1 x2 x3 x4 x5 x7 : MV} {n : Int} (hc : code_ m pc = some (.iinc 6 n, np, a, b, c)) (hp : isL x5 = false) (kk : Rn xs m np [x0, x1, x2, x3, x4, x5, vI (x + n), x7] st h r h') : Rn xs m pc [x0, x1, x2, x3, x4, x5, vI x, x7] st h r h' := rn_s hc rfl (by show some (np, mSt1 _ 6 (vI (x + n)), st, h) = _; unfold mSt1; rw [mClean_no (x := x5) rfl hp]; rfl) kk
theorem r_iinc8_7 {x0 x1 x2 x3 x4 x5 x6 : MV} {n : Int} (hc : code_ m pc = some (.iinc 7 n, np, a, b, c)) (hp : isL x6 = false) (kk : Rn xs m np [x0, x1, x2, x3, x4, x5, x6, vI (x + n)] st h r h') : Rn xs m pc [x0, x1, x2, x3, x4, x5, x6, vI x] st h r h' := rn_s hc rfl (by show some (np, mSt1 _ 7 (vI (x + n)), st, h) = _; unfold mSt1; rw [mClean_no (x := x6) rfl hp]; rfl) kk
theorem r_iinc9_4 {x0 x1 x2 x3 x5 x6 x7 x8 : MV} {n : Int} (hc : code_ m pc = some (.iinc 4 n, np, a, b, c)) (hp : isL x3 = false) (kk : Rn xs m np [x0, x1, x2, x3, vI (x + n), x5, x6, x7, x8] st h r h') : Rn xs m pc [x0, x1, x2, x3, vI x, x5, x6, x7, x8] st h r h' := rn_s hc rfl (by show some (np, mSt1 _ 4 (vI (x + n)), st, h) = _; unfold mSt1; rw [mClean_no (x := x3) rfl hp]; rfl) kk
theorem r_iinc9_5 {x0 x1 x2 x3 x4 x6 x7 x8 : MV} {n : Int} (hc : code_ m pc = some (.iinc 5 n, np, a, b, c)) (hp : isL x4 = false) (kk : Rn xs m np [x0, x1, x2, x3, x4, vI (x + n), x6, x7, x8] st h r h') : Rn xs m pc [x0, x1, x2, x3, x4, vI x, x6, x7, x8] st h r h' := rn_s hc rfl (by show some (np, mSt1 _ 5 (vI (x + n)), st, h) = _; unfold mSt1; rw [mClean_no (x := x4) rfl hp]; rfl) kk
theorem r_iinc9_6 {x0 x1 x2 x3 x4 x5 x7 x8 : MV} {n : Int} (hc : code_ m pc = some (.iinc 6 n, np, a, b, c)) (hp : isL x5 = false) (kk : Rn xs m np [x0, x1, x2, x3, x4, x5, vI (x + n), x7, x8] st h r h') : Rn xs m pc [x0, x1, x2, x3, x4, x5, vI x, x7, x8] st h r h' := rn_s hc rfl (by show some (np, mSt1 _ 6 (vI (x + n)), st, h) = _; unfold mSt1; rw [mClean_no (x := x5) rfl hp]; rfl) kk
theorem r_iinc9_7 {x0 x1 x2 x3 x4 x5 x6 x8 : MV} {n : Int} (hc : code_ m pc = some (.iinc 7 n, np, a, b, c)) (hp : isL x6 = false) (kk : Rn xs m np [x0, x1, x2, x3, x4, x5, x6, vI (x + n), x8] st h r h') : Rn xs m pc [x0, x1, x2, x3, x4, x5, x6, vI x, x8] st h r h' := rn_s hc rfl (by show some (np, mSt1 _ 7 (vI (x + n)), st, h) = _; unfold mSt1; rw [mClean_no (x := x6) rfl hp]; rfl) kk
theorem r_iinc9_8 {x0 x1 x2 x3 x4 x5 x6 x7 : MV} {n : Int} (hc : code_ m pc = some (.iinc 8 n, np, a, b, c)) (hp : isL x7 = false) (kk : Rn xs m np [x0, x1, x2, x3, x4, x5, x6, x7, vI (x + n)] st h r h') : Rn xs m pc [x0, x1, x2, x3, x4, x5, x6, x7, vI x] st h r h' := rn_s hc rfl (by show some (np, mSt1 _ 8 (vI (x + n)), st, h) = _; unfold mSt1; rw [mClean_no (x := x7) rfl hp]; rfl) kk
theorem r_iinc11_8 {x0 x1 x2 x3 x4 x5 x6 x7 x9 x10 : MV} {n : Int} (hc : code_ m pc = some (.iinc 8 n, np, a, b, c)) (hp : isL x7 = false) (kk : Rn xs m np [x0, x1, x2, x3, x4, x5, x6, x7, vI (x + n), x9, x10] st h r h') : Rn xs m pc [x0, x1, x2, x3, x4, x5, x6, x7, vI x, x9, x10] st h r h' := rn_s hc rfl (by show some (np, mSt1 _ 8 (vI (x + n)), st, h) = _; unfold mSt1; rw [mClean_no (x := x7) rfl hp]; rfl) kk
theorem r_iinc13_6 {x0 x1 x2 x3 x4 x5 x7 x8 x9 x10 x11 x12 : MV} {n : Int} (hc : code_ m pc = some (.iinc 6 n, np, a, b, c)) (hp : isL x5 = false) (kk : Rn xs m np [x0, x1, x2, x3, x4, x5, vI (x + n), x7, x8, x9, x10, x11, x12] st h r h') : Rn xs m pc [x0, x1, x2, x3, x4, x5, vI x, x7, x8, x9, x10, x11, x12] st h r h' := rn_s hc rfl (by show some (np, mSt1 _ 6 (vI (x + n)), st, h) = _; unfold mSt1; rw [mClean_no (x := x5) rfl hp]; rfl) kk
theorem r_iinc13_7 {x0 x1 x2 x3 x4 x5 x6 x8 x9 x10 x11 x12 : MV} {n : Int} (hc : code_ m pc = some (.iinc 7 n, np, a, b, c)) (hp : isL x6 = false) (kk : Rn xs m np [x0, x1, x2, x3, x4, x5, x6, vI (x + n), x8, x9, x10, x11, x12] st h r h') : Rn xs m pc [x0, x1, x2, x3, x4, x5, x6, vI x, x8, x9, x10, x11, x12] st h r h' := rn_s hc rfl (by show some (np, mSt1 _ 7 (vI (x + n)), st, h) = _; unfold mSt1; rw [mClean_no (x := x6) rfl hp]; rfl) kk
theorem r_iinc13_8 {x0 x1 x2 x3 x4 x5 x6 x7 x9 x10 x11 x12 : MV} {n : Int} (hc : code_ m pc = some (.iinc 8 n, np, a, b, c)) (hp : isL x7 = false) (kk : Rn xs m np [x0, x1, x2, x3, x4, x5, x6, x7, vI (x + n), x9, x10, x11, x12] st h r h') : Rn xs m pc [x0, x1, x2, x3, x4, x5, x6, x7, vI x, x9, x10, x11, x12] st h r h' := rn_s hc rfl (by show some (np, mSt1 _ 8 (vI (x + n)), st, h) = _; unfold mSt1; rw [mClean_no (x := x7) rfl hp]; rfl) kk
theorem r_iinc13_11 {x0 x1 x2 x3 x4 x5 x6 x7 x8 x9 x10 x12 : MV} {n : Int} (hc : code_ m pc = some (.iinc 11 n, np, a, b, c)) (hp : isL x10 = false) (kk : Rn xs m np [x0, x1, x2, x3, x4, x5, x6, x7, x8, x9, x10, vI (x + n), x12] st h r h') : Rn xs m pc [x0, x1, x2, x3, x4, x5, x6, x7, x8, x9, x10, vI x, x12] st h r h' := rn_s hc rfl (by show some (np, mSt1 _ 11 (vI (x + n)), st, h) = _; unfold mSt1; rw [mClean_no (x := x10) rfl hp]; rfl) kk
theorem r_istore1_0 {x0 : MV} (hc : code_ m pc = some (.istore 0, np, a, b, c)) (kk : Rn xs m np [vI x] st h r h') : Rn xs m pc [x0] (vI x :: st) h r h' := rn_s hc rfl (by rfl) kk
theorem r_istoren1_0 {x0 : MV} (hc : code_ m pc = some (.istore_n 0, np, a, b, c)) (kk : Rn xs m np [vI x] st h r h') : Rn xs m pc [x0] (vI x :: st) h r h' := rn_s hc rfl (by rfl) kk
theorem r_istore2_1 {x0 x1 : MV} (hc : code_ m pc = some (.istore 1, np, a, b, c)) (hp : isL x0 = false) (kk : Rn xs m np [x0, vI x] st h r h') : Rn xs m pc [x0, x1] (vI x :: st) h r h' := rn_s hc rfl (by show some (np, mSt1 _ 1 (vI x), st, h) = _; unfold mSt1; rw [mClean_no (x := x0) rfl hp]; rfl) kk
theorem r_istoren2_1 {x0 x1 : MV} (hc : code_ m pc = some (.istore_n 1, np, a, b, c)) (hp : isL x0 = false) (kk : Rn xs m np [x0, vI x] st h r h') : Rn xs m pc [x0, x1] (vI x :: st) h r h' := rn_s hc rfl (by show some (np, mSt1 _ 1 (vI x), st, h) = _; unfold mSt1; rw [mClean_no (x := x0) rfl hp]; rfl) kk
theorem r_istore3_1 {x0 x1 x2 : MV} (hc : code_ m pc = some (.istore 1, np, a, b, c)) (hp : isL x0 = false) (kk : Rn xs m np [x0, vI x, x2] st h r h') : Rn xs m pc [x0, x1, x2] (vI x :: st) h r h' := rn_s hc rfl (by show some (np, mSt1 _ 1 (vI x), st, h) = _; unfold mSt1; rw [mClean_no (x := x0) rfl hp]; rfl) kk
theorem r_istoren3_1 {x0 x1 x2 : MV} (hc : code_ m pc = some (.istore_n 1, np, a, b, c)) (hp : isL x0 = false) (kk : Rn xs m np [x0, vI x, x2] st h r h') : Rn xs m pc [x0, x1, x2] (vI x :: st) h r h' := rn_s hc rfl (by show some (np, mSt1 _ 1 (vI x), st, h) = _; unfold mSt1; rw [mClean_no (x := x0) rfl hp]; rfl) kk
theorem r_istore3_2 {x0 x1 x2 : MV} (hc : code_ m pc = some (.istore 2, np, a, b, c)) (hp : isL x1 = false) (kk : Rn xs m np [x0, x1, vI x] st h r h') : Rn xs m pc [x0, x1, x2] (vI x :: st) h r h' := rn_s hc rfl (by show some (np, mSt1 _ 2 (vI x), st, h) = _; unfold mSt1; rw [mClean_no (x := x1) rfl hp]; rfl) kk
theorem r_istoren3_2 {x0 x1 x2 : MV} (hc : code_ m pc = some (.istore_n 2, np, a, b, c)) (hp : isL x1 = false) (kk : Rn xs m np [x0, x1, vI x] st h r h') : Rn xs m pc [x0, x1, x2] (vI x :: st) h r h' := rn_s hc rfl (by show some (np, mSt1 _ 2 (vI x), st, h) = _; unfold mSt1; rw [mClean_no (x := x1) rfl hp]; rfl) kk
theorem r_istore4_1 {x0 x1 x2 x3 : MV} (hc : code_ m pc = some (.istore 1, np, a, b, c)) (hp : isL x0 = false) (kk : Rn xs m np [x0, vI x, x2, x3] st h r h') : Rn xs m pc [x0, x1, x2, x3] (vI x :: st) h r h' := rn_s hc rfl (by show some (np, mSt1 _ 1 (vI x), st, h) = _; unfold mSt1; rw [mClean_no (x := x0) rfl hp]; rfl) kk
theorem r_istoren4_1 {x0 x1 x2 x3 : MV} (hc : code_ m pc = some (.istore_n 1, np, a, b, c)) (hp : isL x0 = false) (kk : Rn xs m np [x0, vI x, x2, x3] st h r h') : Rn xs m pc [x0, x1, x2, x3] (vI x :: st) h r h' := rn_s hc rfl (by show some (np, mSt1 _ 1 (vI x), st, h) = _; unfold mSt1; rw [mClean_no (x := x0) rfl hp]; rfl) kk
theorem r_istore4_2 {x0 x1 x2 x3 : MV} (hc : code_ m pc = some (.istore 2, np, a, b, c)) (hp : isL x1 = false) (kk : Rn xs m np [x0, x1, vI x, x3] st h r h') : Rn xs m pc [x0, x1, x2, x3] (vI x :: st) h r h' := rn_s hc rfl (by show some (np, mSt1 _ 2 (vI x), st, h) = _; unfold mSt1; rw [mClean_no (x := x1) rfl hp]; rfl) kk
theorem r_istoren4_2 {x0 x1 x2 x3 : MV} (hc : code_ m pc = some (.istore_n 2, np, a, b, c)) (hp : isL x1 = false) (kk : Rn xs m np [x0, x1, vI x, x3] st h r h') : Rn xs m pc [x0, x1, x2, x3] (vI x :: st) h r h' := rn_s hc rfl (by show some (np, mSt1 _ 2 (vI x), st, h) = _; unfold mSt1; rw [mClean_no (x := x1) rfl hp]; rfl) kk
theorem r_istore4_3 {x0 x1 x2 x3 : MV} (hc : code_ m pc = some (.istore 3, np, a, b, c)) (hp : isL x2 = false) (kk : Rn xs m np [x0, x1, x2, vI x] st h r h') : Rn xs m pc [x0, x1, x2, x3] (vI x :: st) h r h' := rn_s hc rfl (by show some (np, mSt1 _ 3 (vI x), st, h) = _; unfold mSt1; rw [mClean_no (x := x2) rfl hp]; rfl) kk
theorem r_istoren4_3 {x0 x1 x2 x3 : MV} (hc : code_ m pc = some (.istore_n 3, np, a, b, c)) (hp : isL x2 = false) (kk : Rn xs m np [x0, x1, x2, vI x] st h r h') : Rn xs m pc [x0, x1, x2, x3] (vI x :: st) h r h' := rn_s hc rfl (by show some (np, mSt1 _ 3 (vI x), st, h) = _; unfold mSt1; rw [mClean_no (x := x2) rfl hp]; rfl) kk
theorem r_istore5_2 {x0 x1 x2 x3 x4 : MV} (hc : code_ m pc = some (.istore 2, np, a, b, c)) (hp : isL x1 = false) (kk : Rn xs m np [x0, x1, vI x, x3, x4] st h r h') : Rn xs m pc [x0, x1, x2, x3, x4] (vI x :: st) h r h' := rn_s hc rfl (by show some (np, mSt1 _ 2 (vI x), st, h) = _; unfold mSt1; rw [mClean_no (x := x1) rfl hp]; rfl) kk
theorem r_istoren5_2 {x0 x1 x2 x3 x4 : MV} (hc : code_ m pc = some (.istore_n 2, np, a, b, c)) (hp : isL x1 = false) (kk : Rn xs m np [x0, x1, vI x, x3, x4] st h r h') : Rn xs m pc [x0, x1, x2, x3, x4] (vI x :: st) h r h' := rn_s hc rfl (by show some (np, mSt1 _ 2 (vI x), st, h) = _; unfold mSt1; rw [mClean_no (x := x1) rfl hp]; rfl) kk
theorem r_istore5_3 {x0 x1 x2 x3 x4 : MV} (hc : code_ m pc = some (.istore 3, np, a, b, c)) (hp : isL x2 = false) (kk : Rn xs m np [x0, x1, x2, vI x, x4] st h r h') : Rn xs m pc [x0, x1, x2, x3, x4] (vI x :: st) h r h' := rn_s hc rfl (by show some (np, mSt1 _ 3 (vI x), st, h) = _; unfold mSt1; rw [mClean_no (x := x2) rfl hp]; rfl) kk
theorem r_istoren5_3 {x0 x1 x2 x3 x4 : MV} (hc : code_ m pc = some (.istore_n 3, np, a, b, c)) (hp : isL x2 = false) (kk : Rn xs m np [x0, x1, x2, vI x, x4] st h r h') : Rn xs m pc [x0, x1, x2, x3, x4] (vI x :: st) h r h' := rn_s hc rfl (by show some (np, mSt1 _ 3 (vI x), st, h) = _; unfold mSt1; rw [mClean_no (x := x2) rfl hp]; rfl) kk
theorem r_istore5_4 {x0 x1 x2 x3 x4 : MV} (hc : code_ m pc = some (.istore 4, np, a, b, c)) (hp : isL x3 = false) (kk : Rn xs m np [x0, x1, x2, x3, vI x] st h r h') : Rn xs m pc [x0, x1, x2, x3, x4] (vI x :: st) h r h' := rn_s hc rfl (by show some (np, mSt1 _ 4 (vI x), st, h) = _; unfold mSt1; rw [mClean_no (x := x3) rfl hp]; rfl) kk
theorem r_istore6_2 {x0 x1 x2 x3 x4 x5 : MV} (hc : code_ m pc = some (.istore 2, np, a, b, c)) (hp : isL x1 = false) (kk : Rn xs m np [x0, x1, vI x, x3, x4, x5] st h r h') : Rn xs m pc [x0, x1, x2, x3, x4, x5] (vI x :: st) h r h' := rn_s hc rfl (by show some (np, mSt1 _ 2 (vI x), st, h) = _; unfold mSt1; rw [mClean_no (x := x1) rfl hp]; rfl) kk
theorem r_istoren6_2 {x0 x1 x2 x3 x4 x5 : MV} (hc : code_ m pc = some (.istore_n 2, np, a, b, c)) (hp : isL x1 = false) (kk : Rn xs m np [x0, x1, vI x, x3, x4, x5] st h r h') : Rn xs m pc [x0, x1, x2, x3, x4, x5] (vI x :: st) h r h' := rn_s hc rfl (by show some (np, mSt1 _ 2 (vI x), st, h) = _; unfold mSt1; rw [mClean_no (x := x1) rfl hp]; rfl) kk
theorem r_istore6_3 {x0 x1 x2 x3 x4 x5 : MV} (hc : code_ m pc = some (.istore 3, np, a, b, c)) (hp : isL x2 = false) (kk : Rn xs m np [x0, x1, x2, vI x, x4, x5] st h r h') : Rn xs m pc [x0, x1, x2, x3, x4, x5] (vI x :: st) h r h' := rn_s hc rfl (by show some (np, mSt1 _ 3 (vI x), st, h) = _; unfold mSt1; rw [mClean_no (x := x2) rfl hp]; rfl) kk
theorem r_istoren6_3 {x0 x1 x2 x3 x4 x5 : MV} (hc : code_ m pc = some (.istore_n 3, np, a, b, c)) (hp : isL x2 = false) (kk : Rn xs m np [x0, x1, x2, vI x, x4, x5] st h r h') : Rn xs m pc [x0, x1, x2, x3, x4, x5] (vI x :: st) h r h' := rn_s hc rfl (by show some (np, mSt1 _ 3 (vI x), st, h) = _; unfold mSt1; rw [mClean_no (x := x2) rfl hp]; rfl) kk
theorem r_istore6_4 {x0 x1 x2 x3 x4 x5 : MV} (hc : code_ m pc = some (.istore 4, np, a, b, c)) (hp : isL x3 = false) (kk : Rn xs m np [x0, x1, x2, x3, vI x, x5] st h r h') : Rn xs m pc [x0, x1, x2, x3, x4, x5] (vI x :: st) h r h' := rn_s hc rfl (by show some (np, mSt1 _ 4 (vI x), st, h) = _; unfold mSt1; rw [mClean_no (x := x3) rfl hp]; rfl) kk
theorem r_istore6_5 {x0 x1 x2 x3 x4 x5 : MV} (hc : code_ m pc = some (.istore 5, np, a, b, c)) (hp : isL x4 = false) (kk : Rn xs m np [x0, x1, x2, x3, x4, vI x] st h r h') : Rn xs m pc [x0, x1, x2, x3, x4, x5] (vI x :: st) h r h' := rn_s hc rfl (by show some (np, mSt1 _ 5 (vI x), st, h) = _; unfold mSt1; rw [mClean_no (x := x4) rfl hp]; rfl) kk
theorem r_istore7_2 {x0 x1 x2 x3 x4 x5 x6 : MV} (hc : code_ m pc = some (.istore 2, np, a, b, c)) (hp : isL x1 = false) (kk : Rn xs m np [x0, x1, vI x, x3, x4, x5, x6] st h r h') : Rn xs m pc [x0, x1, x2, x3, x4, x5, x6] (vI x :: st) h r h' := rn_s hc rfl (by show some (np, mSt1 _ 2 (vI x), st, h) = _; unfold mSt1; rw [mClean_no (x := x1) rfl hp]; rfl) kk
theorem r_istoren7_2 {x0 x1 x2 x3 x4 x5 x6 : MV} (hc : code_ m pc = some (.istore_n 2, np, a, b, c)) (hp : isL x1 = false) (kk : Rn xs m np [x0, x1, vI x, x3, x4, x5, x6] st h r h') : Rn xs m pc [x0, x1, x2, x3, x4, x5, x6] (vI x :: st) h r h' := rn_s hc rfl (by show some (np, mSt1 _ 2 (vI x), st, h) = _; unfold mSt1; rw [mClean_no (x := x1) rfl hp]; rfl) kk
theorem r_istore7_3 {x0 x1 x2 x3 x4 x5 x6 : MV} (hc : code_ m pc = some (.istore 3, np, a, b, c)) (hp : isL x2 = false) (kk : Rn xs m np [x0, x1, x2, vI x, x4, x5, x6] st h r h') : Rn xs m pc [x0, x1, x2, x3, x4, x5, x6] (vI x :: st) h r h' := rn_s hc rfl (by show some (np, mSt1 _ 3 (vI x), st, h) = _; unfold mSt1; rw [mClean_no (x := x2) rfl hp]; rfl) kk
theorem r_istoren7_3 {x0 x1 x2 x3 x4 x5 x6 : MV} (hc : code_ m pc = some (.istore_n 3, np, a, b, c)) (hp : isL x2 = false) (kk : Rn xs m np [x0, x1, x2, vI x, x4, x5, x6] st h r h') : Rn xs m pc [x0, x1, x2, x3, x4, x5, x6] (vI x :: st) h r h' := rn_s hc rfl (by show some (np, mSt1 _ 3 (vI x), st, h) = _; unfold mSt1; rw [mClean_no (x := x2) rfl hp]; rfl) kk
theorem r_istore7_4 {x0 x1 x2 x3 x4 x5 x6 : MV} (hc : code_ m pc = some (.istore 4, np, a, b, c)) (hp : isL x3 = false) (kk : Rn xs m np [x0, x1, x2, x3, vI x, x5, x6] st h r h') : Rn xs m pc [x0, x1, x2, x3, x4, x5, x6] (vI x :: st) h r h' := rn_s hc rfl (by show some (np, mSt1 _ 4 (vI x), st, h) = _; unfold mSt1; rw [mClean_no (x := x3) rfl hp]; rfl) kk
theorem r_istore7_5 {x0 x1 x2 x3 x4 x5 x6 : MV} (hc : code_ m pc = some (.istore 5, np, a, b, c)) (hp : isL x4 = false) (kk : Rn xs m np [x0, x1, x2, x3, x4, vI x, x6] st h r h') : Rn xs m pc [x0, x1, x2, x3, x4, x5, x6] (vI x :: st) h r h' := rn_s hc rfl (by show some (np, mSt1 _ 5 (vI x), st, h) = _; unfold mSt1; rw [mClean_no (x := x4) rfl hp]; rfl) kk
theorem r_istore7_6 {x0 x1 x2 x3 x4 x5 x6 : MV} (hc : code_ m pc = some (.istore 6, np, a, b, c)) (hp : isL x5 = false) (kk : Rn xs m np [x0, x1, x2, x3, x4, x5, vI x] st h r h') : Rn xs m pc [x0, x1, x2, x3, x4, x5, x6] (vI x :: st) h r h' := rn_s hc rfl (by show some (np, mSt1 _ 6 (vI x), st, h) = _; unfold mSt1; rw [mClean_no (x := x5) rfl hp]; rfl) kk
theorem r_istore8_2 {x0 x1 x2 x3 x4 x5 x6 x7 : MV} (hc : code_ m pc = some (.istore 2, np, a, b, c)) (hp : isL x1 = false) (kk : Rn xs m np [x0, x1, vI x, x3, x4, x5, x6, x7] st h r h') : Rn xs m pc [x0, x1, x2, x3, x4, x5, x6, x7] (vI x :: st) h r h' := rn_s hc rfl (by show some (np, mSt1 _ 2 (vI x), st, h) = _; unfold mSt1; rw [mClean_no (x := x1) rfl hp]; rfl) kk
theorem r_istoren8_2 {x0 x1 x2 x3 x4 x5 x6 x7 : MV} (hc : code_ m pc = some (.istore_n 2, np, a, b, c)) (hp : isL x1 = false) (kk : Rn xs m np [x0, x1, vI x, x3, x4, x5, x6, x7] st h r h') : Rn xs m pc [x0, x1, x2, x3, x4, x5, x6, x7] (vI x :: st) h r h' := rn_s hc rfl (by show some (np, mSt1 _ 2 (vI x), st, h) = _; unfold mSt1; rw [mClean_no (x := x1) rfl hp]; rfl) kk
theorem r_istore8_3 {x0 x1 x2 x3 x4 x5 x6 x7 : MV} (hc : code_ m pc = some (.istore 3, np, a, b, c)) (hp : isL x2 = false) (kk : Rn xs m np [x0, x1, x2, vI x, x4, x5, x6, x7] st h r h') : Rn xs m pc [x0, x1, x2, x3, x4, x5, x6, x7] (vI x :: st) h r h' := rn_s hc rfl (by show some (np, mSt1 _ 3 (vI x), st, h) = _; unfold mSt1; rw [mClean_no (x := x2) rfl hp]; rfl) kk
theorem r_istoren8_3 {x0 x1 x2 x3 x4 x5 x6 x7 : MV} (hc : code_ m pc = some (.istore_n 3, np, a, b, c)) (hp : isL x2 = false) (kk : Rn xs m np [x0, x1, x2, vI x, x4, x5, x6, x7] st h r h') : Rn xs m pc [x0, x1, x2, x3, x4, x5, x6, x7] (vI x :: st) h r h' := rn_s hc rfl (by show some (np, mSt1 _ 3 (vI x), st, h) = _; unfold mSt1; rw [mClean_no (x := x2) rfl hp]; rfl) kk
theorem r_istore8_4 {x0 x1 x2 x3 x4 x5 x6 x7 : MV} (hc : code_ m pc = some (.istore 4, np, a, b, c)) (hp : isL x3 = false) (kk : Rn xs m np [x0, x1, x2, x3, vI x, x5, x6, x7] st h r h') : Rn xs m pc [x0, x1, x2, x3, x4, x5, x6, x7] (vI x :: st) h r h' := rn_s hc rfl (by show some (np, mSt1 _ 4 (vI x), st, h) = _; unfold mSt1; rw [mClean_no (x := x3) rfl hp]; rfl) kk
theorem r_istore8_5 {x0 x1 x2 x3 x4 x5 x6 x7 : MV} (hc : code_ m pc = some (.istore 5, np, a, b, c)) (hp : isL x4 = false) (kk : Rn xs m np [x0, x1, x2, x3, x4, vI x, x6, x7] st h r h') : Rn xs m pc [x0, x1, x2, x3, x4, x5, x6, x7] (vI x :: st) h r h' := rn_s hc rfl (by show some (np, mSt1 _ 5 (vI x), st, h) = _; unfold mSt1; rw [mClean_no (x := x4) rfl hp]; rfl) kk
theorem r_istore8_6 {x0 x1 x2 x3 x4 x5 x6 x7 : MV} (hc : code_ m pc = some (.istore 6, np, a, b, c)) (hp : isL x5 = false) (kk : Rn xs m np [x0, x1, x2, x3, x4, x5, vI x, x7] st h r h') : Rn xs m pc [x0, x1, x2, x3, x4, x5, x6, x7] (vI x :: st) h r h' := rn_s hc rfl (by show some (np, mSt1 _ 6 (vI x), st, h) = _; unfold mSt1; rw [mClean_no (x := x5) rfl hp]; rfl) kk
theorem r_istore8_7 {x0 x1 x2 x3 x4 x5 x6 x7 : MV} (hc : code_ m pc = some (.istore 7, np, a, b, c)) (hp : isL x6 = false) (kk : Rn xs m np [x0, x1, x2, x3, x4, x5, x6, vI x] st h r h') : Rn xs m pc [x0, x1, x2, x3, x4, x5, x6, x7] (vI x :: st) h r h' := rn_s hc rfl (by show some (np, mSt1 _ 7 (vI x), st, h) = _; unfold mSt1; rw [mClean_no (x := x6) rfl hp]; rfl) kk
theorem r_istore9_2 {x0 x1 x2 x3 x4 x5 x6 x7 x8 : MV} (hc : code_ m pc = some (.istore 2, np, a, b, c)) (hp : isL x1 = false) (kk : Rn xs m np [x0, x1, vI x, x3, x4, x5, x6, x7, x8] st h r h') : Rn xs m pc [x0, x1, x2, x3, x4, x5, x6, x7, x8] (vI x :: st) h r h' := rn_s hc rfl (by show some (np, mSt1 _ 2 (vI x), st, h) = _; unfold mSt1; rw [mClean_no (x := x1) rfl hp]; rfl) kk
theorem r_istoren9_2 {x0 x1 x2 x3 x4 x5 x6 x7 x8 : MV} (hc : code_ m pc = some (.istore_n 2, np, a, b, c)) (hp : isL x1 = false) (kk : Rn xs m np [x0, x1, vI x, x3, x4, x5, x6, x7, x8] st h r h') : Rn xs m pc [x0, x1, x2, x3, x4, x5, x6, x7, x8] (vI x :: st) h r h' := rn_s hc rfl (by show some (np, mSt1 _ 2 (vI x), st, h) = _; unfold mSt1; rw [mClean_no (x := x1) rfl hp]; rfl) kk
theorem r_istore9_3 {x0 x1 x2 x3 x4 x5 x6 x7 x8 : MV} (hc : code_ m pc = some (.istore 3, np, a, b, c)) (hp : isL x2 = false) (kk : Rn xs m np [x0, x1, x2, vI x, x4, x5, x6, x7, x8] st h r h') : Rn xs m pc [x0, x1, x2, x3, x4, x5, x6, x7, x8] (vI x :: st) h r h' := rn_s hc rfl (by show some (np, mSt1 _ 3 (vI x), st, h) = _; unfold mSt1; rw [mClean_no (x := x2) rfl hp]; rfl) kk
theorem r_istoren9_3 {x0 x1 x2 x3 x4 x5 x6 x7 x8 : MV} (hc : code_ m pc = some (.istore_n 3, np, a, b, c)) (hp : isL x2 = false) (kk : Rn xs m np [x0, x1, x2, vI x, x4, x5, x6, x7, x8] st h r h') : Rn xs m pc [x0, x1, x2, x3, x4, x5, x6, x7, x8] (vI x :: st) h r h' := rn_s hc rfl (by show some (np, mSt1 _ 3 (vI x), st, h) = _; unfold mSt1; rw [mClean_no (x := x2) rfl hp]; rfl) kk
theorem r_istore9_4 {x0 x1 x2 x3 x4 x5 x6 x7 x8 : MV} (hc : code_ m pc = some (.istore 4, np, a, b, c)) (hp : isL x3 = false) (kk : Rn xs m np [x0, x1, x2, x3, vI x, x5, x6, x7, x8] st h r h') : Rn xs m pc [x0, x1, x2, x3, x4, x5, x6, x7, x8] (vI x :: st) h r h' := rn_s hc rfl (by show some (np, mSt1 _ 4 (vI x), st, h) = _; unfold mSt1; rw [mClean_no (x := x3) rfl hp]; rfl) kk
theorem r_istore9_5 {x0 x1 x2 x3 x4 x5 x6 x7 x8 : MV} (hc : code_ m pc = some (.istore 5, np, a, b, c)) (hp : isL x4 = false) (kk : Rn xs m np [x0, x1, x2, x3, x4, vI x, x6, x7, x8] st h r h') : Rn xs m pc [x0, x1, x2, x3, x4, x5, x6, x7, x8] (vI x :: st) h r h' := rn_s hc rfl (by show some (np, mSt1 _ 5 (vI x), st, h) = _; unfold mSt1; rw [mClean_no (x := x4) rfl hp]; rfl) kk
theorem r_istore9_6 {x0 x1 x2 x3 x4 x5 x6 x7 x8 : MV} (hc : code_ m pc = some (.istore 6, np, a, b, c)) (hp : isL x5 = false) (kk : Rn xs m np [x0, x1, x2, x3, x4, x5, vI x, x7, x8] st h r h') : Rn xs m pc [x0, x1, x2, x3, x4, x5, x6, x7, x8] (vI x :: st) h r h' := rn_s hc rfl (by show some (np, mSt1 _ 6 (vI x), st, h) = _; unfold mSt1; rw [mClean_no (x := x5) rfl hp]; rfl) kk
theorem r_istore9_7 {x0 x1 x2 x3 x4 x5 x6 x7 x8 : MV} (hc : code_ m pc = some (.istore 7, np, a, b, c)) (hp : isL x6 = false) (kk : Rn xs m np [x0, x1, x2, x3, x4, x5, x6, vI x, x8] st h r h') : Rn xs m pc [x0, x1, x2, x3, x4, x5, x6, x7, x8] (vI x :: st) h r h' := rn_s hc rfl (by show some (np, mSt1 _ 7 (vI x), st, h) = _; unfold mSt1; rw [mClean_no (x := x6) rfl hp]; rfl) kk
theorem r_istore9_8 {x0 x1 x2 x3 x4 x5 x6 x7 x8 : MV} (hc : code_ m pc = some (.istore 8, np, a, b, c)) (hp : isL x7 = false) (kk : Rn xs m np [x0, x1, x2, x3, x4, x5, x6, x7, vI x] st h r h') : Rn xs m pc [x0, x1, x2, x3, x4, x5, x6, x7, x8] (vI x :: st) h r h' := rn_s hc rfl (by show some (np, mSt1 _ 8 (vI x), st, h) = _; unfold mSt1; rw [mClean_no (x := x7) rfl hp]; rfl) kk
theorem r_istore11_4 {x0 x1 x2 x3 x4 x5 x6 x7 x8 x9 x10 : MV} (hc : code_ m pc = some (.istore 4, np, a, b, c)) (hp : isL x3 = false) (kk : Rn xs m np [x0, x1, x2, x3, vI x, x5, x6, x7, x8, x9, x10] st h r h') : Rn xs m pc [x0, x1, x2, x3, x4, x5, x6, x7, x8, x9, x10] (vI x :: st) h r h' := rn_s hc rfl (by show some (np, mSt1 _ 4 (vI x), st, h) = _; unfold mSt1; rw [mClean_no (x := x3) rfl hp]; rfl) kk
theorem r_istore11_5 {x0 x1 x2 x3 x4 x5 x6 x7 x8 x9 x10 : MV} (hc : code_ m pc = some (.istore 5, np, a, b, c)) (hp : isL x4 = false) (kk : Rn xs m np [x0, x1, x2, x3, x4, vI x, x6, x7, x8, x9, x10] st h r h') : Rn xs m pc [x0, x1, x2, x3, x4, x5, x6, x7, x8, x9, x10] (vI x :: st) h r h' := rn_s hc rfl (by show some (np, mSt1 _ 5 (vI x), st, h) = _; unfold mSt1; rw [mClean_no (x := x4) rfl hp]; rfl) kk
theorem r_istore11_6 {x0 x1 x2 x3 x4 x5 x6 x7 x8 x9 x10 : MV} (hc : code_ m pc = some (.istore 6, np, a, b, c)) (hp : isL x5 = false) (kk : Rn xs m np [x0, x1, x2, x3, x4, x5, vI x, x7, x8, x9, x10] st h r h') : Rn xs m pc [x0, x1, x2, x3, x4, x5, x6, x7, x8, x9, x10] (vI x :: st) h r h' := rn_s hc rfl (by show some (np, mSt1 _ 6 (vI x), st, h) = _; unfold mSt1; rw [mClean_no (x := x5) rfl hp]; rfl) kk
theorem r_istore11_7 {x0 x1 x2 x3 x4 x5 x6 x7 x8 x9 x10 : MV} (hc : code_ m pc = some (.istore 7, np, a, b, c)) (hp : isL x6 = false) (kk : Rn xs m np [x0, x1, x2, x3, x4, x5, x6, vI x, x8, x9, x10] st h r h') : Rn xs m pc [x0, x1, x2, x3, x4, x5, x6, x7, x8, x9, x10] (vI x :: st) h r h' := rn_s hc rfl (by show some (np, mSt1 _ 7 (vI x), st, h) = _; unfold mSt1; rw [mClean_no (x := x6) rfl hp]; rfl) kk
theorem r_istore11_8 {x0 x1 x2 x3 x4 x5 x6 x7 x8 x9 x10 : MV} (hc : code_ m pc = some (.istore 8, np, a, b, c)) (hp : isL x7 = false) (kk : Rn xs m np [x0, x1, x2, x3, x4, x5, x6, x7, vI x, x9, x10] st h r h') : Rn xs m pc [x0, x1, x2, x3, x4, x5, x6, x7, x8, x9, x10] (vI x :: st) h r h' := rn_s hc rfl (by show some (np, mSt1 _ 8 (vI x), st, h) = _; unfold mSt1; rw [mClean_no (x := x7) rfl hp]; rfl) kk
theorem r_istore11_9 {x0 x1 x2 x3 x4 x5 x6 x7 x8 x9 x10 : MV} (hc : code_ m pc = some (.istore 9, np, a, b, c)) (hp : isL x8 = false) (kk : Rn xs m np [x0, x1, x2, x3, x4, x5, x6, x7, x8, vI x, x10] st h r h') : Rn xs m pc [x0, x1, x2, x3, x4, x5, x6, x7, x8, x9, x10] (vI x :: st) h r h' := rn_s hc rfl (by show some (np, mSt1 _ 9 (vI x), st, h) = _; unfold mSt1; rw [mClean_no (x := x8) rfl hp]; rfl) kk
theorem r_istore11_10 {x0 x1 x2 x3 x4 x5 x6 x7 x8 x9 x10 : MV} (hc : code_ m pc = some (.istore 10, np, a, b, c)) (hp : isL x9 = false) (kk : Rn xs m np [x0, x1, x2, x3, x4, x5, x6, x7, x8, x9, vI x] st h r h') : Rn xs m pc [x0, x1, x2, x3, x4, x5, x6, x7, x8, x9, x10] (vI x :: st) h r h' := rn_s hc rfl (by show some (np, mSt1 _ 10 (vI x), st, h) = _; unfold mSt1; rw [mClean_no (x := x9) rfl hp]; rfl) kk
theorem r_istore13_3 {x0 x1 x2 x3 x4 x5 x6 x7 x8 x9 x10 x11 x12 : MV} (hc : code_ m pc = some (.istore 3, np, a, b, c)) (hp : isL x2 = false) (kk : Rn xs m np [x0, x1, x2, vI x, x4, x5, x6, x7, x8, x9, x10, x11, x12] st h r h') : Rn xs m pc [x0, x1, x2, x3, x4, x5, x6, x7, x8, x9, x10, x11, x12] (vI x :: st) h r h' := rn_s hc rfl (by show some (np, mSt1 _ 3 (vI x), st, h) = _; unfold mSt1; rw [mClean_no (x := x2) rfl hp]; rfl) kk
theorem r_istoren13_3 {x0 x1 x2 x3 x4 x5 x6 x7 x8 x9 x10 x11 x12 : MV} (hc : code_ m pc = some (.istore_n 3, np, a, b, c)) (hp : isL x2 = false) (kk : Rn xs m np [x0, x1, x2, vI x, x4, x5, x6, x7, x8, x9, x10, x11, x12] st h r h') : Rn xs m pc [x0, x1, x2, x3, x4, x5, x6, x7, x8, x9, x10, x11, x12] (vI x :: st) h r h' := rn_s hc rfl (by show some (np, mSt1 _ 3 (vI x), st, h) = _; unfold mSt1; rw [mClean_no (x := x2) rfl hp]; rfl) kk
theorem r_istore13_4 {x0 x1 x2 x3 x4 x5 x6 x7 x8 x9 x10 x11 x12 : MV} (hc : code_ m pc = some (.istore 4, np, a, b, c)) (hp : isL x3 = false) (kk : Rn xs m np [x0, x1, x2, x3, vI x, x5, x6, x7, x8, x9, x10, x11, x12] st h r h') : Rn xs m pc [x0, x1, x2, x3, x4, x5, x6, x7, x8, x9, x10, x11, x12] (vI x :: st) h r h' := rn_s hc rfl (by show some (np, mSt1 _ 4 (vI x), st, h) = _; unfold mSt1; rw [mClean_no (x := x3) rfl hp]; rfl) kk
theorem r_istore13_5 {x0 x1 x2 x3 x4 x5 x6 x7 x8 x9 x10 x11 x12 : MV} (hc : code_ m pc = some (.istore 5, np, a, b, c)) (hp : isL x4 = false) (kk : Rn xs m np [x0, x1, x2, x3, x4, vI x, x6, x7, x8, x9, x10, x11, x12] st h r h') : Rn xs m pc [x0, x1, x2, x3, x4, x5, x6, x7, x8, x9, x10, x11, x12] (vI x :: st) h r h' := rn_s hc rfl (by show some (np, mSt1 _ 5 (vI x), st, h) = _; unfold mSt1; rw [mClean_no (x := x4) rfl hp]; rfl) kk
theorem r_istore13_6 {x0 x1 x2 x3 x4 x5 x6 x7 x8 x9 x10 x11 x12 : MV} (hc : code_ m pc = some (.istore 6, np, a, b, c)) (hp : isL x5 = false) (kk : Rn xs m np [x0, x1, x2, x3, x4, x5, vI x, x7, x8, x9, x10, x11, x12] st h r h') : Rn xs m pc [x0, x1, x2, x3, x4, x5, x6, x7, x8, x9, x10, x11, x12] (vI x :: st) h r h' := rn_s hc rfl (by show some (np, mSt1 _ 6 (vI x), st, h) = _; unfold mSt1; rw [mClean_no (x := x5) rfl hp]; rfl) kk
theorem r_istore13_7 {x0 x1 x2 x3 x4 x5 x6 x7 x8 x9 x10 x11 x12 : MV} (hc : code_ m pc = some (.istore 7, np, a, b, c)) (hp : isL x6 = false) (kk : Rn xs m np [x0, x1, x2, x3, x4, x5, x6, vI x, x8, x9, x10, x11, x12] st h r h') : Rn xs m pc [x0, x1, x2, x3, x4, x5, x6, x7, x8, x9, x10, x11, x12] (vI x :: st) h r h' := rn_s hc rfl (by show some (np, mSt1 _ 7 (vI x), st, h) = _; unfold mSt1; rw [mClean_no (x := x6) rfl hp]; rfl) kk
theorem r_istore13_8 {x0 x1 x2 x3 x4 x5 x6 x7 x8 x9 x10 x11 x12 : MV} (hc : code_ m pc = some (.istore 8, np, a, b, c)) (hp : isL x7 = false) (kk : Rn xs m np [x0, x1, x2, x3, x4, x5, x6, x7, vI x, x9, x10, x11, x12] st h r h') : Rn xs m pc [x0, x1, x2, x3, x4, x5, x6, x7, x8, x9, x10, x11, x12] (vI x :: st) h r h' := rn_s hc rfl (by show some (np, mSt1 _ 8 (vI x), st, h) = _; unfold mSt1; rw [mClean_no (x := x7) rfl hp]; rfl) kk
theorem r_istore13_9 {x0 x1 x2 x3 x4 x5 x6 x7 x8 x9 x10 x11 x12 : MV} (hc : code_ m pc = some (.istore 9, np, a, b, c)) (hp : isL x8 = false) (kk : Rn xs m np [x0, x1, x2, x3, x4, x5, x6, x7, x8, vI x, x10, x11, x12] st h r h') : Rn xs m pc [x0, x1, x2, x3, x4, x5, x6, x7, x8, x9, x10, x11, x12] (vI x :: st) h r h' := rn_s hc rfl (by show some (np, mSt1 _ 9 (vI x), st, h) = _; unfold mSt1; rw [mClean_no (x := x8) rfl hp]; rfl) kk
theorem r_istore13_10 {x0 x1 x2 x3 x4 x5 x6 x7 x8 x9 x10 x11 x12 : MV} (hc : code_ m pc = some (.istore 10, np, a, b, c)) (hp : isL x9 = false) (kk : Rn xs m np [x0, x1, x2, x3, x4, x5, x6, x7, x8, x9, vI x, x11, x12] st h r h') : Rn xs m pc [x0, x1, x2, x3, x4, x5, x6, x7, x8, x9, x10, x11, x12] (vI x :: st) h r h' := rn_s hc rfl (by show some (np, mSt1 _ 10 (vI x), st, h) = _; unfold mSt1; rw [mClean_no (x := x9) rfl hp]; rfl) kk
theorem r_istore13_11 {x0 x1 x2 x3 x4 x5 x6 x7 x8 x9 x10 x11 x12 : MV} (hc : code_ m pc = some (.istore 11, np, a, b, c)) (hp : isL x10 = false) (kk : Rn xs m np [x0, x1, x2, x3, x4, x5, x6, x7, x8, x9, x10, vI x, x12] st h r h') : Rn xs m pc [x0, x1, x2, x3, x4, x5, x6, x7, x8, x9, x10, x11, x12] (vI x :: st) h r h' := rn_s hc rfl (by show some (np, mSt1 _ 11 (vI x), st, h) = _; unfold mSt1; rw [mClean_no (x := x10) rfl hp]; rfl) kk
theorem r_istore13_12 {x0 x1 x2 x3 x4 x5 x6 x7 x8 x9 x10 x11 x12 : MV} (hc : code_ m pc = some (.istore 12, np, a, b, c)) (hp : isL x11 = false) (kk : Rn xs m np [x0, x1, x2, x3, x4, x5, x6, x7, x8, x9, x10, x11, vI x] st h r h') : Rn xs m pc [x0, x1, x2, x3, x4, x5, x6, x7, x8, x9, x10, x11, x12] (vI x :: st) h r h' := rn_s hc rfl (by show some (np, mSt1 _ 12 (vI x), st, h) = _; unfold mSt1; rw [mClean_no (x := x11) rfl hp]; rfl) kk
theorem r_istore14_7 {x0 x1 x2 x3 x4 x5 x6 x7 x8 x9 x10 x11 x12 x13 : MV} (hc : code_ m pc = some (.istore 7, np, a, b, c)) (hp : isL x6 = false) (kk : Rn xs m np [x0, x1, x2, x3, x4, x5, x6, vI x, x8, x9, x10, x11, x12, x13] st h r h') : Rn xs m pc [x0, x1, x2, x3, x4, x5, x6, x7, x8, x9, x10, x11, x12, x13] (vI x :: st) h r h' := rn_s hc rfl (by show some (np, mSt1 _ 7 (vI x), st, h) = _; unfold mSt1; rw [mClean_no (x := x6) rfl hp]; rfl) kk
theorem r_istore14_8 {x0 x1 x2 x3 x4 x5 x6 x7 x8 x9 x10 x11 x12 x13 : MV} (hc : code_ m pc = some (.istore 8, np, a, b, c)) (hp : isL x7 = false) (kk : Rn xs m np [x0, x1, x2, x3, x4, x5, x6, x7, vI x, x9, x10, x11, x12, x13] st h r h') : Rn xs m pc [x0, x1, x2, x3, x4, x5, x6, x7, x8, x9, x10, x11, x12, x13] (vI x :: st) h r h' := rn_s hc rfl (by show some (np, mSt1 _ 8 (vI x), st, h) = _; unfold mSt1; rw [mClean_no (x := x7) rfl hp]; rfl) kk
theorem r_istore14_9 {x0 x1 x2 x3 x4 x5 x6 x7 x8 x9 x10 x11 x12 x13 : MV} (hc : code_ m pc = some (.istore 9, np, a, b, c)) (hp : isL x8 = false) (kk : Rn xs m np [x0, x1, x2, x3, x4, x5, x6, x7, x8, vI x, x10, x11, x12, x13] st h r h') : Rn xs m pc [x0, x1, x2, x3, x4, x5, x6, x7, x8, x9, x10, x11, x12, x13] (vI x :: st) h r h' := rn_s hc rfl (by show some (np, mSt1 _ 9 (vI x), st, h) = _; unfold mSt1; rw [mClean_no (x := x8) rfl hp]; rfl) kk
theorem r_istore14_10 {x0 x1 x2 x3 x4 x5 x6 x7 x8 x9 x10 x11 x12 x13 : MV} (hc : code_ m pc = some (.istore 10, np, a, b, c)) (hp : isL x9 = false) (kk : Rn xs m np [x0, x1, x2, x3, x4, x5, x6, x7, x8, x9, vI x, x11, x12, x13] st h r h') : Rn xs m pc [x0, x1, x2, x3, x4, x5, x6, x7, x8, x9, x10, x11, x12, x13] (vI x :: st) h r h' := rn_s hc rfl (by show some (np, mSt1 _ 10 (vI x), st, h) = _; unfold mSt1; rw [mClean_no (x := x9) rfl hp]; rfl) kk
theorem r_istore14_11 {x0 x1 x2 x3 x4 x5 x6 x7 x8 x9 x10 x11 x12 x13 : MV} (hc : code_ m pc = some (.istore 11, np, a, b, c)) (hp : isL x10 = false) (kk : Rn xs m np [x0, x1, x2, x3, x4, x5, x6, x7, x8, x9, x10, vI x, x12, x13] st h r h') : Rn xs m pc [x0, x1, x2, x3, x4, x5, x6, x7, x8, x9, x10, x11, x12, x13] (vI x :: st) h r h' := rn_s hc rfl (by show some (np, mSt1 _ 11 (vI x), st, h) = _; unfold mSt1; rw [mClean_no (x := x10) rfl hp]; rfl) kk
theorem r_lstore5_2 {x0 x1 x2 x3 x4 : MV} (hc : code_ m pc = some (.lstore 2, np, a, b, c)) (hp : isL x1 = false) (kk : Rn xs m np [x0, x1, vL x, vU, x4] st h r h') : Rn xs m pc [x0, x1, x2, x3, x4] (vL x :: st) h r h' := rn_s hc rfl (by show some (np, mSt2 _ 2 (vL x), st, h) = _; unfold mSt2; rw [mClean_no (x := x1) rfl hp]; rfl) kk
theorem r_lstoren5_2 {x0 x1 x2 x3 x4 : MV} (hc : code_ m pc = some (.lstore_n 2, np, a, b, c)) (hp : isL x1 = false) (kk : Rn xs m np [x0, x1, vL x, vU, x4] st h r h') : Rn xs m pc [x0, x1, x2, x3, x4] (vL x :: st) h r h' := rn_s hc rfl (by show some (np, mSt2 _ 2 (vL x), st, h) = _; unfold mSt2; rw [mClean_no (x := x1) rfl hp]; rfl) kk
theorem r_lstore6_3 {x0 x1 x2 x3 x4 x5 : MV} (hc : code_ m pc = some (.lstore 3, np, a, b, c)) (hp : isL x2 = false) (kk : Rn xs m np [x0, x1, x2, vL x, vU, x5] st h r h') : Rn xs m pc [x0, x1, x2, x3, x4, x5] (vL x :: st) h r h' := rn_s hc rfl (by show some (np, mSt2 _ 3 (vL x), st, h) = _; unfold mSt2; rw [mClean_no (x := x2) rfl hp]; rfl) kk
theorem r_lstoren6_3 {x0 x1 x2 x3 x4 x5 : MV} (hc : code_ m pc = some (.lstore_n 3, np, a, b, c)) (hp : isL x2 = false) (kk : Rn xs m np [x0, x1, x2, vL x, vU, x5] st h r h') : Rn xs m pc [x0, x1, x2, x3, x4, x5] (vL x :: st) h r h' := rn_s hc rfl (by show some (np, mSt2 _ 3 (vL x), st, h) = _; unfold mSt2; rw [mClean_no (x := x2) rfl hp]; rfl) kk
theorem r_lstore7_5 {x0 x1 x2 x3 x4 x5 x6 : MV} (hc : code_ m pc = some (.lstore 5, np, a, b, c)) (hp : isL x4 = false) (kk : Rn xs m np [x0, x1, x2, x3, x4, vL x, vU] st h r h') : Rn xs m pc [x0, x1, x2, x3, x4, x5, x6] (vL x :: st) h r h' := rn_s hc rfl (by show some (np, mSt2 _ 5 (vL x), st, h) = _; unfold mSt2; rw [mClean_no (x := x4) rfl hp]; rfl) kk
theorem r_lstore9_4 {x0 x1 x2 x3 x4 x5 x6 x7 x8 : MV} (hc : code_ m pc = some (.lstore 4, np, a, b, c)) (hp : isL x3 = false) (kk : Rn xs m np [x0, x1, x2, x3, vL x, vU, x6, x7, x8] st h r h') : Rn xs m pc [x0, x1, x2, x3, x4, x5, x6, x7, x8] (vL x :: st) h r h' := rn_s hc rfl (by show some (np, mSt2 _ 4 (vL x), st, h) = _; unfold mSt2; rw [mClean_no (x := x3) rfl hp]; rfl) kk
theorem r_lstore9_5 {x0 x1 x2 x3 x4 x5 x6 x7 x8 : MV} (hc : code_ m pc = some (.lstore 5, np, a, b, c)) (hp : isL x4 = false) (kk : Rn xs m np [x0, x1, x2, x3, x4, vL x, vU, x7, x8] st h r h') : Rn xs m pc [x0, x1, x2, x3, x4, x5, x6, x7, x8] (vL x :: st) h r h' := rn_s hc rfl (by show some (np, mSt2 _ 5 (vL x), st, h) = _; unfold mSt2; rw [mClean_no (x := x4) rfl hp]; rfl) kk
theorem r_lstore9_6 {x0 x1 x2 x3 x4 x5 x6 x7 x8 : MV} (hc : code_ m pc = some (.lstore 6, np, a, b, c)) (hp : isL x5 = false) (kk : Rn xs m np [x0, x1, x2, x3, x4, x5, vL x, vU, x8] st h r h') : Rn xs m pc [x0, x1, x2, x3, x4, x5, x6, x7, x8] (vL x :: st) h r h' := rn_s hc rfl (by show some (np, mSt2 _ 6 (vL x), st, h) = _; unfold mSt2; rw [mClean_no (x := x5) rfl hp]; rfl) kk
theorem r_lstore9_7 {x0 x1 x2 x3 x4 x5 x6 x7 x8 : MV} (hc : code_ m pc = some (.lstore 7, np, a, b, c)) (hp : isL x6 = false) (kk : Rn xs m np [x0, x1, x2, x3, x4, x5, x6, vL x, vU] st h r h') : Rn xs m pc [x0, x1, x2, x3, x4, x5, x6, x7, x8] (vL x :: st) h r h' := rn_s hc rfl (by show some (np, mSt2 _ 7 (vL x), st, h) = _; unfold mSt2; rw [mClean_no (x := x6) rfl hp]; rfl) kk
theorem r_lstore10_6 {x0 x1 x2 x3 x4 x5 x6 x7 x8 x9 : MV} (hc : code_ m pc = some (.lstore 6, np, a, b, c)) (hp : isL x5 = false) (kk : Rn xs m np [x0, x1, x2, x3, x4, x5, vL x, vU, x8, x9] st h r h') : Rn xs m pc [x0, x1, x2, x3, x4, x5, x6, x7, x8, x9] (vL x :: st) h r h' := rn_s hc rfl (by show some (np, mSt2 _ 6 (vL x), st, h) = _; unfold mSt2; rw [mClean_no (x := x5) rfl hp]; rfl) kk
theorem r_lstore10_8 {x0 x1 x2 x3 x4 x5 x6 x7 x8 x9 : MV} (hc : code_ m pc = some (.lstore 8, np, a, b, c)) (hp : isL x7 = false) (kk : Rn xs m np [x0, x1, x2, x3, x4, x5, x6, x7, vL x, vU] st h r h') : Rn xs m pc [x0, x1, x2, x3, x4, x5, x6, x7, x8, x9] (vL x :: st) h r h' := rn_s hc rfl (by show some (np, mSt2 _ 8 (vL x), st, h) = _; unfold mSt2; rw [mClean_no (x := x7) rfl hp]; rfl) kk
theorem r_lstore11_4 {x0 x1 x2 x3 x4 x5 x6 x7 x8 x9 x10 : MV} (hc : code_ m pc = some (.lstore 4, np, a, b, c)) (hp : isL x3 = false) (kk : Rn xs m np [x0, x1, x2, x3, vL x, vU, x6, x7, x8, x9, x10] st h r h') : Rn xs m pc [x0, x1, x2, x3, x4, x5, x6, x7, x8, x9, x10] (vL x :: st) h r h' := rn_s hc rfl (by show some (np, mSt2 _ 4 (vL x), st, h) = _; unfold mSt2; rw [mClean_no (x := x3) rfl hp]; rfl) kk
theorem r_lstore11_6 {x0 x1 x2 x3 x4 x5 x6 x7 x8 x9 x10 : MV} (hc : code_ m pc = some (.lstore 6, np, a, b, c)) (hp : isL x5 = false) (kk : Rn xs m np [x0, x1, x2, x3, x4, x5, vL x, vU, x8, x9, x10] st h r h') : Rn xs m pc [x0, x1, x2, x3, x4, x5, x6, x7, x8, x9, x10] (vL x :: st) h r h' := rn_s hc rfl (by show some (np, mSt2 _ 6 (vL x), st, h) = _; unfold mSt2; rw [mClean_no (x := x5) rfl hp]; rfl) kk
theorem r_lstore11_9 {x0 x1 x2 x3 x4 x5 x6 x7 x8 x9 x10 : MV} (hc : code_ m pc = some (.lstore 9, np, a, b, c)) (hp : isL x8 = false) (kk : Rn xs m np [x0, x1, x2, x3, x4, x5, x6, x7, x8, vL x, vU] st h r h') : Rn xs m pc [x0, x1, x2, x3, x4, x5, x6, x7, x8, x9, x10] (vL x :: st) h r h' := rn_s hc rfl (by show some (np, mSt2 _ 9 (vL x), st, h) = _; unfold mSt2; rw [mClean_no (x := x8) rfl hp]; rfl) kk
theorem r_lstore14_12 {x0 x1 x2 x3 x4 x5 x6 x7 x8 x9 x10 x11 x12 x13 : MV} (hc : code_ m pc = some (.lstore 12, np, a, b, c)) (hp : isL x11 = false) (kk : Rn xs m np [x0, x1, x2, x3, x4, x5, x6, x7, x8, x9, x10, x11, vL x, vU] st h r h') : Rn xs m pc [x0, x1, x2, x3, x4, x5, x6, x7, x8, x9, x10, x11, x12, x13] (vL x :: st) h r h' := rn_s hc rfl (by show some (np, mSt2 _ 12 (vL x), st, h) = _; unfold mSt2; rw [mClean_no (x := x11) rfl hp]; rfl) kk
theorem r_lstore15_5 {x0 x1 x2 x3 x4 x5 x6 x7 x8 x9 x10 x11 x12 x13 x14 : MV} (hc : code_ m pc = some (.lstore 5, np, a, b, c)) (hp : isL x4 = false) (kk : Rn xs m np [x0, x1, x2, x3, x4, vL x, vU, x7, x8, x9, x10, x11, x12, x13, x14] st h r h') : Rn xs m pc [x0, x1, x2, x3, x4, x5, x6, x7, x8, x9, x10, x11, x12, x13, x14] (vL x :: st) h r h' := rn_s hc rfl (by show some (np, mSt2 _ 5 (vL x), st, h) = _; unfold mSt2; rw [mClean_no (x := x4) rfl hp]; rfl) kk
theorem r_lstore15_7 {x0 x1 x2 x3 x4 x5 x6 x7 x8 x9 x10 x11 x12 x13 x14 : MV} (hc : code_ m pc = some (.lstore 7, np, a, b, c)) (hp : isL x6 = false) (kk : Rn xs m np [x0, x1, x2, x3, x4, x5, x6, vL x, vU, x9, x10, x11, x12, x13, x14] st h r h') : Rn xs m pc [x0, x1, x2, x3, x4, x5, x6, x7, x8, x9, x10, x11, x12, x13, x14] (vL x :: st) h r h' := rn_s hc rfl (by show some (np, mSt2 _ 7 (vL x), st, h) = _; unfold mSt2; rw [mClean_no (x := x6) rfl hp]; rfl) kk
theorem r_lstore15_9 {x0 x1 x2 x3 x4 x5 x6 x7 x8 x9 x10 x11 x12 x13 x14 : MV} (hc : code_ m pc = some (.lstore 9, np, a, b, c)) (hp : isL x8 = false) (kk : Rn xs m np [x0, x1, x2, x3, x4, x5, x6, x7, x8, vL x, vU, x11, x12, x13, x14] st h r h') : Rn xs m pc [x0, x1, x2, x3, x4, x5, x6, x7, x8, x9, x10, x11, x12, x13, x14] (vL x :: st) h r h' := rn_s hc rfl (by show some (np, mSt2 _ 9 (vL x), st, h) = _; unfold mSt2; rw [mClean_no (x := x8) rfl hp]; rfl) kk
theorem r_lstore15_11 {x0 x1 x2 x3 x4 x5 x6 x7 x8 x9 x10 x11 x12 x13 x14 : MV} (hc : code_ m pc = some (.lstore 11, np, a, b, c)) (hp : isL x10 = false) (kk : Rn xs m np [x0, x1, x2, x3, x4, x5, x6, x7, x8, x9, x10, vL x, vU, x13, x14] st h r h') : Rn xs m pc [x0, x1, x2, x3, x4, x5, x6, x7, x8, x9, x10, x11, x12, x13, x14] (vL x :: st) h r h' := rn_s hc rfl (by show some (np, mSt2 _ 11 (vL x), st, h) = _; unfold mSt2; rw [mClean_no (x := x10) rfl hp]; rfl) kk
theorem r_lstore15_13 {x0 x1 x2 x3 x4 x5 x6 x7 x8 x9 x10 x11 x12 x13 x14 : MV} (hc : code_ m pc = some (.lstore 13, np, a, b, c)) (hp : isL x12 = false) (kk : Rn xs m np [x0, x1, x2, x3, x4, x5, x6, x7, x8, x9, x10, x11, x12, vL x, vU] st h r h') : Rn xs m pc [x0, x1, x2, x3, x4, x5, x6, x7, x8, x9, x10, x11, x12, x13, x14] (vL x :: st) h r h' := rn_s hc rfl (by show some (np, mSt2 _ 13 (vL x), st, h) = _; unfold mSt2; rw [mClean_no (x := x12) rfl hp]; rfl) kk
end RW
theorem rt_Chances_part : retM 0 = (some .long) := by decide +kernel
theorem rt_Chances_commonDivisor : retM 1 = (some .long) := by decide +kernel
theorem rt_Chances_mixed : retM 2 = (some .long) := by decide +kernel
theorem rt_Chances_mixedInOrder : retM 3 = (some .long) := by decide +kernel
theorem rt_Chances_isTheFirst : retM 4 = (some .long) := by decide +kernel
theorem rt_Chances_winsRace : retM 5 = (some .long) := by decide +kernel
theorem rt_Chances_power : retM 6 = (some .long) := by decide +kernel
theorem rt_Defence_init : retM 7 = none := by decide +kernel
theorem rt_Defence_letIn : retM 8 = (some .int) := by decide +kernel
theorem rt_Defence_slides : retM 9 = (some .int) := by decide +kernel
theorem rt_Defence_place : retM 10 = none := by decide +kernel
theorem rt_Defence_shotsPastOthers : retM 11 = (some .int) := by decide +kernel
theorem rt_Defence_tryKeeper : retM 12 = none := by decide +kernel
theorem rt_Evening_init : retM 13 = none := by decide +kernel
theorem rt_Evening_table : retM 14 = (some (.object "FourRods$Table")) := by decide +kernel
theorem rt_Evening_acts : retM 15 = (some .int) := by decide +kernel
theorem rt_Evening_stoppedAt : retM 16 = (some .int) := by decide +kernel
theorem rt_Evening_reason : retM 17 = (some .int) := by decide +kernel
theorem rt_Evening_firstGoal : retM 18 = (some .int) := by decide +kernel
theorem rt_Evening_play : retM 19 = none := by decide +kernel
theorem rt_Grasps_isRow : retM 20 = (some .boolean) := by decide +kernel
theorem rt_Grasps_fewest : retM 21 = (some .int) := by decide +kernel
theorem rt_Grasps_needed : retM 22 = (some .int) := by decide +kernel
theorem rt_Grasps_latest : retM 23 = (some .int) := by decide +kernel
theorem rt_Grasps_nextNeed : retM 24 = (some .int) := by decide +kernel
theorem rt_Image_init : retM 25 = none := by decide +kernel
theorem rt_Image_keep : retM 26 = none := by decide +kernel
theorem rt_Image_giveBack : retM 27 = (some .boolean) := by decide +kernel
theorem rt_Pad_init : retM 28 = none := by decide +kernel
theorem rt_Pad_size : retM 29 = (some .int) := by decide +kernel
theorem rt_Pad_add : retM 30 = (some .boolean) := by decide +kernel
theorem rt_Pad_clear : retM 31 = none := by decide +kernel
theorem rt_Pad_rewind : retM 32 = none := by decide +kernel
theorem rt_Pad_isReadOut : retM 33 = (some .boolean) := by decide +kernel
theorem rt_Pad_kind : retM 34 = (some .int) := by decide +kernel
theorem rt_Pad_rod : retM 35 = (some .int) := by decide +kernel
theorem rt_Pad_number : retM 36 = (some .int) := by decide +kernel
theorem rt_Pad_faultPlace : retM 37 = (some .int) := by decide +kernel
theorem rt_Pad_readAct : retM 38 = (some .boolean) := by decide +kernel
theorem rt_Pad_takesHandling : retM 39 = (some .boolean) := by decide +kernel
theorem rt_Pad_takesWay : retM 40 = (some .boolean) := by decide +kernel
theorem rt_Pad_takes : retM 41 = (some .boolean) := by decide +kernel
theorem rt_Pad_takesRod : retM 42 = (some .boolean) := by decide +kernel
theorem rt_Pad_takesDigit : retM 43 = (some .boolean) := by decide +kernel
theorem rt_Pad_nextSign : retM 44 = (some .int) := by decide +kernel
theorem rt_Passes_init : retM 45 = none := by decide +kernel
theorem rt_Passes_from : retM 46 = (some .int) := by decide +kernel
theorem rt_Passes_countTo : retM 47 = none := by decide +kernel
theorem rt_Passes_leads : retM 48 = (some .boolean) := by decide +kernel
theorem rt_Passes_firstFrom : retM 49 = (some .int) := by decide +kernel
theorem rt_Passes_receiver : retM 50 = (some .int) := by decide +kernel
theorem rt_Passes_ownOnly : retM 51 = (some .int) := by decide +kernel
theorem rt_Rods_isRod : retM 52 = (some .boolean) := by decide +kernel
theorem rt_Rods_isMan : retM 53 = (some .boolean) := by decide +kernel
theorem rt_Rods_sideOf : retM 54 = (some .int) := by decide +kernel
theorem rt_Rods_menOf : retM 55 = (some .int) := by decide +kernel
theorem rt_Rods_gapOf : retM 56 = (some .int) := by decide +kernel
theorem rt_Rods_lastSlide : retM 57 = (some .int) := by decide +kernel
theorem rt_Rods_isOf : retM 58 = (some .boolean) := by decide +kernel
theorem rt_Rods_keeperOf : retM 59 = (some .int) := by decide +kernel
theorem rt_Rods_backsOf : retM 60 = (some .int) := by decide +kernel
theorem rt_Rods_stepToGoalOf : retM 61 = (some .int) := by decide +kernel
theorem rt_Sights_init : retM 62 = none := by decide +kernel
theorem rt_Sights_size : retM 63 = (some .int) := by decide +kernel
theorem rt_Sights_add : retM 64 = (some .boolean) := by decide +kernel
theorem rt_Sights_clear : retM 65 = none := by decide +kernel
theorem rt_Sights_copyFrom : retM 66 = none := by decide +kernel
theorem rt_Sights_findRows : retM 67 = (some .int) := by decide +kernel
theorem rt_Sights_rowFound : retM 68 = (some .int) := by decide +kernel
theorem rt_Sights_bestShot : retM 69 = (some .int) := by decide +kernel
theorem rt_Sights_mostLeft : retM 70 = (some .int) := by decide +kernel
theorem rt_Sights_isRow : retM 71 = (some .boolean) := by decide +kernel
theorem rt_Sights_fitsAll : retM 72 = (some .boolean) := by decide +kernel
theorem rt_Sights_sideBy : retM 73 = (some .int) := by decide +kernel
theorem rt_Table_init : retM 74 = none := by decide +kernel
theorem rt_Table_copyFrom : retM 75 = none := by decide +kernel
theorem rt_Table_slideOf : retM 76 = (some .int) := by decide +kernel
theorem rt_Table_slideTo : retM 77 = none := by decide +kernel
theorem rt_Table_scoredBy : retM 78 = (some .int) := by decide +kernel
theorem rt_Table_setScored : retM 79 = none := by decide +kernel
theorem rt_Table_scoredInAll : retM 80 = (some .int) := by decide +kernel
theorem rt_Table_heldRods : retM 81 = (some .int) := by decide +kernel
theorem rt_Table_isHeld : retM 82 = (some .boolean) := by decide +kernel
theorem rt_Table_heldBy : retM 83 = (some .int) := by decide +kernel
theorem rt_Table_setHeld : retM 84 = none := by decide +kernel
theorem rt_Table_tenth : retM 85 = (some .int) := by decide +kernel
theorem rt_Table_isDead : retM 86 = (some .boolean) := by decide +kernel
theorem rt_Table_ballRod : retM 87 = (some .int) := by decide +kernel
theorem rt_Table_ballMan : retM 88 = (some .int) := by decide +kernel
theorem rt_Table_ballPlace : retM 89 = (some .int) := by decide +kernel
theorem rt_Table_loseBall : retM 90 = none := by decide +kernel
theorem rt_Table_giveBall : retM 91 = none := by decide +kernel
theorem rt_Table_placeOf : retM 92 = (some .int) := by decide +kernel
theorem rt_Table_covererOf : retM 93 = (some .int) := by decide +kernel
theorem rt_Table_nearestOf : retM 94 = (some .int) := by decide +kernel
theorem rt_Table_overFrom : retM 95 = (some .int) := by decide +kernel
theorem rt_Table_shotEnd : retM 96 = (some .int) := by decide +kernel
theorem rt_Table_reachesGoal : retM 97 = (some .boolean) := by decide +kernel
theorem rt_Table_shotsToGoal : retM 98 = (some .int) := by decide +kernel
theorem rt_Table_shotsPast : retM 99 = (some .int) := by decide +kernel
theorem rt_Table_bounced : retM 100 = (some .int) := by decide +kernel
theorem rt_Table_whyNot : retM 101 = (some .int) := by decide +kernel
theorem rt_Table_isPlayed : retM 102 = (some .boolean) := by decide +kernel
theorem rt_Table_isHeldWrongly : retM 103 = (some .boolean) := by decide +kernel
theorem rt_Table_isNextMan : retM 104 = (some .boolean) := by decide +kernel
theorem rt_Table_perform : retM 105 = none := by decide +kernel
theorem rt_Table_endShot : retM 106 = none := by decide +kernel
theorem rt_Table_tryDrawn : retM 107 = none := by decide +kernel
theorem rt_Table_drawnNumber : retM 108 = (some .int) := by decide +kernel
theorem rt_F_init : retM 109 = none := by decide +kernel
theorem rt_F_slide : retM 110 = (some .int) := by decide +kernel
theorem rt_F_hold : retM 111 = (some .int) := by decide +kernel
theorem rt_F_ball : retM 112 = (some .int) := by decide +kernel
theorem rt_F_goals : retM 113 = (some .int) := by decide +kernel
theorem rt_F_say : retM 114 = (some .int) := by decide +kernel
theorem rt_F_wipe : retM 115 = (some .int) := by decide +kernel
theorem rt_F_fault : retM 116 = (some .int) := by decide +kernel
theorem rt_F_judge : retM 117 = (some .int) := by decide +kernel
theorem rt_F_done : retM 118 = (some .int) := by decide +kernel
theorem rt_F_behind : retM 119 = (some .int) := by decide +kernel
theorem rt_F_then : retM 120 = (some .int) := by decide +kernel
theorem rt_F_ends : retM 121 = (some .int) := by decide +kernel
theorem rt_F_goesIn : retM 122 = (some .int) := by decide +kernel
theorem rt_F_path : retM 123 = (some .int) := by decide +kernel
theorem rt_F_stand : retM 124 = (some .int) := by decide +kernel
theorem rt_F_mix : retM 125 = (some .long) := by decide +kernel
theorem rt_F_hands : retM 126 = (some .int) := by decide +kernel
theorem rt_F_truly : retM 127 = (some .long) := by decide +kernel
theorem rt_F_race : retM 128 = (some .long) := by decide +kernel
theorem rt_F_seen : retM 129 = (some .int) := by decide +kernel
theorem rt_F_forget : retM 130 = (some .int) := by decide +kernel
theorem rt_F_fits : retM 131 = (some .int) := by decide +kernel
theorem rt_F_ask : retM 132 = (some .int) := by decide +kernel
theorem rt_F_year : retM 133 = (some .int) := by decide +kernel
theorem rt_F_image : retM 134 = (some .int) := by decide +kernel
theorem rt_F_restore : retM 135 = (some .int) := by decide +kernel
theorem rt_F_told : retM 136 = (some .int) := by decide +kernel
theorem rt_F_toldByNumber : retM 137 = (some .int) := by decide +kernel
theorem rt_F_playsThrough : retM 138 = (some .boolean) := by decide +kernel
theorem rt_F_imageOf : retM 139 = (some (.object "FourRods$Image")) := by decide +kernel
theorem rt_F_isWithin : retM 140 = (some .boolean) := by decide +kernel
theorem rt_F_isBit : retM 141 = (some .boolean) := by decide +kernel
theorem rt_F_isTenths : retM 142 = (some .boolean) := by decide +kernel
theorem rt_F_shotBit : retM 143 = (some .int) := by decide +kernel
theorem rt_F_copyRow : retM 144 = none := by decide +kernel
theorem rt_M_init : retM 145 = none := by decide +kernel
theorem rt_M_in : retM 146 = (some .boolean) := by decide +kernel
theorem rt_M_bits : retM 147 = (some .int) := by decide +kernel
theorem rt_M_isRod : retM 148 = (some .boolean) := by decide +kernel
theorem rt_M_sideOf : retM 149 = (some .int) := by decide +kernel
theorem rt_M_kindOf : retM 150 = (some .int) := by decide +kernel
theorem rt_M_menOf : retM 151 = (some .int) := by decide +kernel
theorem rt_M_apartOf : retM 152 = (some .int) := by decide +kernel
theorem rt_M_widest : retM 153 = (some .int) := by decide +kernel
theorem rt_M_isMan : retM 154 = (some .boolean) := by decide +kernel
theorem rt_M_held : retM 155 = (some .int) := by decide +kernel
theorem rt_M_slide : retM 156 = (some .int) := by decide +kernel
theorem rt_M_hold : retM 157 = (some .int) := by decide +kernel
theorem rt_M_ball : retM 158 = (some .int) := by decide +kernel
theorem rt_M_goals : retM 159 = (some .int) := by decide +kernel
theorem rt_M_say : retM 160 = (some .int) := by decide +kernel
theorem rt_M_wipe : retM 161 = (some .int) := by decide +kernel
theorem rt_M_step : retM 162 = (some .int) := by decide +kernel
theorem rt_M_faultOf : retM 163 = (some .int) := by decide +kernel
theorem rt_M_fault : retM 164 = (some .int) := by decide +kernel
theorem rt_M_standsAt : retM 165 = (some .int) := by decide +kernel
theorem rt_M_covers : retM 166 = (some .int) := by decide +kernel
theorem rt_M_shotBy : retM 167 = (some .int) := by decide +kernel
theorem rt_M_overBy : retM 168 = (some .int) := by decide +kernel
theorem rt_M_asNow : retM 169 = none := by decide +kernel
theorem rt_M_isOver : retM 170 = (some .boolean) := by decide +kernel
theorem rt_M_grasp : retM 171 = (some .int) := by decide +kernel
theorem rt_M_letGo : retM 172 = (some .int) := by decide +kernel
theorem rt_M_slideBy : retM 173 = (some .int) := by decide +kernel
theorem rt_M_whyNot : retM 174 = (some .int) := by decide +kernel
theorem rt_M_passTo : retM 175 = (some .int) := by decide +kernel
theorem rt_M_passOver : retM 176 = (some .int) := by decide +kernel
theorem rt_M_shoot : retM 177 = (some .int) := by decide +kernel
theorem rt_M_throwIn : retM 178 = (some .int) := by decide +kernel
theorem rt_M_endTenth : retM 179 = (some .int) := by decide +kernel
theorem rt_M_rodAct : retM 180 = (some .int) := by decide +kernel
theorem rt_M_nextAct : retM 181 = (some .int) := by decide +kernel
theorem rt_M_goEvenings : retM 182 = (some .int) := by decide +kernel
theorem rt_M_judge : retM 183 = (some .int) := by decide +kernel
theorem rt_M_barOfEvenings : retM 184 = (some .int) := by decide +kernel
theorem rt_M_done : retM 185 = (some .int) := by decide +kernel
theorem rt_M_behind : retM 186 = (some .int) := by decide +kernel
theorem rt_M_then : retM 187 = (some .int) := by decide +kernel
theorem rt_M_ends : retM 188 = (some .int) := by decide +kernel
theorem rt_M_allIn : retM 189 = (some .int) := by decide +kernel
theorem rt_M_goesIn : retM 190 = (some .int) := by decide +kernel
theorem rt_M_passes : retM 191 = (some .boolean) := by decide +kernel
theorem rt_M_path : retM 192 = (some .int) := by decide +kernel
theorem rt_M_stand : retM 193 = (some .int) := by decide +kernel
theorem rt_M_lowest : retM 194 = (some .long) := by decide +kernel
theorem rt_M_mix : retM 195 = (some .long) := by decide +kernel
theorem rt_M_hands : retM 196 = (some .int) := by decide +kernel
theorem rt_M_power : retM 197 = (some .long) := by decide +kernel
theorem rt_M_truly : retM 198 = (some .long) := by decide +kernel
theorem rt_M_race : retM 199 = (some .long) := by decide +kernel
theorem rt_M_seen : retM 200 = (some .int) := by decide +kernel
theorem rt_M_forget : retM 201 = (some .int) := by decide +kernel
theorem rt_M_sideAt : retM 202 = (some .int) := by decide +kernel
theorem rt_M_isFit : retM 203 = (some .boolean) := by decide +kernel
theorem rt_M_fits : retM 204 = (some .int) := by decide +kernel
theorem rt_M_ask : retM 205 = (some .int) := by decide +kernel
theorem rt_M_year : retM 206 = (some .int) := by decide +kernel
theorem rt_M_image : retM 207 = (some .int) := by decide +kernel
theorem rt_M_restore : retM 208 = (some .int) := by decide +kernel
theorem rt_M_told : retM 209 = (some .int) := by decide +kernel
theorem rt_Integer_bitCount : retM 210 = (some .int) := by decide +kernel
theorem rt_Math_floorMod : retM 211 = (some .int) := by decide +kernel
theorem rt_Math_abs : retM 212 = (some .int) := by decide +kernel
theorem rt_Math_max : retM 213 = (some .int) := by decide +kernel
theorem rt_Math_min : retM 214 = (some .int) := by decide +kernel
theorem rt_Law_law : retM 215 = (some .boolean) := by decide +kernel
theorem lset {l : List Int} {i : Nat} {x N : Int} (h : (l.length : Int) = N) : ((l.set i x).length : Int) = N := by rw [List.length_set]; exact h
theorem gs_eq {h : MH} {q : Nat} {c0 c : HC} (hq : h[q]? = some c0) : (h.set q c)[q]? = some c := List.getElem?_set_self (List.getElem?_eq_some_iff.mp hq).1
theorem gs_ne {h : MH} {q p : Nat} {c0 c : HC} (hn : p ≠ q) (hq : h[q]? = some c0) : (h.set p c)[q]? = some c0 := by rw [List.getElem?_set_ne hn]; exact hq
theorem en_Chances_part {xs : List Int} {h h' : MH} {r : Option MV} {z0 : Int} {z1 : Int} {z2 : Int} (k : Rn xs 0 0 [vL z0, vU, vL z1, vU, vI z2, vU, vU] [] h r h') : Sp xs 0 [vL z0, vL z1, vI z2] h r h' := sp_of (Nat.le_of_ble_eq_true rfl) rfl k
theorem en_Chances_commonDivisor {xs : List Int} {h h' : MH} {r : Option MV} {z0 : Int} {z1 : Int} (k : Rn xs 1 0 [vL z0, vU, vL z1, vU, vU, vU, vU, vU, vU, vU, vU] [] h r h') : Sp xs 1 [vL z0, vL z1] h r h' := sp_of (Nat.le_of_ble_eq_true rfl) rfl k
theorem en_Chances_mixed {xs : List Int} {h h' : MH} {r : Option MV} {z0 : Int} {z1 : Int} {z2 : Int} {z3 : Int} {z4 : Int} {z5 : Int} (k : Rn xs 2 0 [vI z0, vI z1, vI z2, vI z3, vI z4, vI z5, vU] [] h r h') : Sp xs 2 [vI z0, vI z1, vI z2, vI z3, vI z4, vI z5] h r h' := sp_of (Nat.le_of_ble_eq_true rfl) rfl k
theorem en_Chances_mixedInOrder {xs : List Int} {h h' : MH} {r : Option MV} {z0 : Int} {z1 : Int} {z2 : Int} {z3 : Int} {z4 : Int} {z5 : Int} (k : Rn xs 3 0 [vI z0, vI z1, vI z2, vI z3, vI z4, vI z5, vU, vU, vU, vU, vU, vU, vU] [] h r h') : Sp xs 3 [vI z0, vI z1, vI z2, vI z3, vI z4, vI z5] h r h' := sp_of (Nat.le_of_ble_eq_true rfl) rfl k
theorem en_Chances_isTheFirst {xs : List Int} {h h' : MH} {r : Option MV} {z0 : Int} {z1 : Int} {z2 : Int} {z3 : Int} {z4 : Int} (k : Rn xs 4 0 [vI z0, vI z1, vI z2, vI z3, vI z4, vU, vU, vU, vU] [] h r h') : Sp xs 4 [vI z0, vI z1, vI z2, vI z3, vI z4] h r h' := sp_of (Nat.le_of_ble_eq_true rfl) rfl k
theorem en_Chances_winsRace {xs : List Int} {h h' : MH} {r : Option MV} {z0 : Int} {z1 : Int} {z2 : Int} {z3 : Int} (k : Rn xs 5 0 [vI z0, vI z1, vI z2, vI z3, vU, vU, vU, vU, vU] [] h r h') : Sp xs 5 [vI z0, vI z1, vI z2, vI z3] h r h' := sp_of (Nat.le_of_ble_eq_true rfl) rfl k
theorem en_Chances_power {xs : List Int} {h h' : MH} {r : Option MV} {z0 : Int} {z1 : Int} (k : Rn xs 6 0 [vI z0, vI z1, vU, vU, vU] [] h r h') : Sp xs 6 [vI z0, vI z1] h r h' := sp_of (Nat.le_of_ble_eq_true rfl) rfl k
theorem en_Defence_init {xs : List Int} {h h' : MH} {r : Option MV} {q : Nat} (k : Rn xs 7 0 [vR q] [] h r h') : Sp xs 7 [vR q] h r h' := sp_of (Nat.le_of_ble_eq_true rfl) rfl k
theorem en_Defence_letIn {xs : List Int} {h h' : MH} {r : Option MV} {q : Nat} (k : Rn xs 8 0 [vR q] [] h r h') : Sp xs 8 [vR q] h r h' := sp_of (Nat.le_of_ble_eq_true rfl) rfl k
theorem en_Defence_slides {xs : List Int} {h h' : MH} {r : Option MV} {q : Nat} (k : Rn xs 9 0 [vR q] [] h r h') : Sp xs 9 [vR q] h r h' := sp_of (Nat.le_of_ble_eq_true rfl) rfl k
theorem en_Defence_place {xs : List Int} {h h' : MH} {r : Option MV} {q : Nat} {q0 : Nat} (k : Rn xs 10 0 [vR q, vR q0, vU, vU, vU, vU, vU, vU] [] h r h') : Sp xs 10 [vR q, vR q0] h r h' := sp_of (Nat.le_of_ble_eq_true rfl) rfl k
theorem en_Defence_shotsPastOthers {xs : List Int} {h h' : MH} {r : Option MV} {q : Nat} {z0 : Int} (k : Rn xs 11 0 [vR q, vI z0, vU, vU, vU, vU, vU] [] h r h') : Sp xs 11 [vR q, vI z0] h r h' := sp_of (Nat.le_of_ble_eq_true rfl) rfl k
theorem en_Defence_tryKeeper {xs : List Int} {h h' : MH} {r : Option MV} {q : Nat} {z0 : Int} {z1 : Int} {z2 : Int} (k : Rn xs 12 0 [vR q, vI z0, vI z1, vI z2, vU, vU] [] h r h') : Sp xs 12 [vR q, vI z0, vI z1, vI z2] h r h' := sp_of (Nat.le_of_ble_eq_true rfl) rfl k
theorem en_Evening_init {xs : List Int} {h h' : MH} {r : Option MV} {q : Nat} (k : Rn xs 13 0 [vR q] [] h r h') : Sp xs 13 [vR q] h r h' := sp_of (Nat.le_of_ble_eq_true rfl) rfl k
theorem en_Evening_table {xs : List Int} {h h' : MH} {r : Option MV} {q : Nat} (k : Rn xs 14 0 [vR q] [] h r h') : Sp xs 14 [vR q] h r h' := sp_of (Nat.le_of_ble_eq_true rfl) rfl k
theorem en_Evening_acts {xs : List Int} {h h' : MH} {r : Option MV} {q : Nat} (k : Rn xs 15 0 [vR q] [] h r h') : Sp xs 15 [vR q] h r h' := sp_of (Nat.le_of_ble_eq_true rfl) rfl k
theorem en_Evening_stoppedAt {xs : List Int} {h h' : MH} {r : Option MV} {q : Nat} (k : Rn xs 16 0 [vR q] [] h r h') : Sp xs 16 [vR q] h r h' := sp_of (Nat.le_of_ble_eq_true rfl) rfl k
theorem en_Evening_reason {xs : List Int} {h h' : MH} {r : Option MV} {q : Nat} (k : Rn xs 17 0 [vR q] [] h r h') : Sp xs 17 [vR q] h r h' := sp_of (Nat.le_of_ble_eq_true rfl) rfl k
theorem en_Evening_firstGoal {xs : List Int} {h h' : MH} {r : Option MV} {q : Nat} (k : Rn xs 18 0 [vR q] [] h r h') : Sp xs 18 [vR q] h r h' := sp_of (Nat.le_of_ble_eq_true rfl) rfl k
theorem en_Evening_play {xs : List Int} {h h' : MH} {r : Option MV} {q : Nat} {q0 : Nat} {q1 : Nat} (k : Rn xs 19 0 [vR q, vR q0, vR q1, vU, vU, vU] [] h r h') : Sp xs 19 [vR q, vR q0, vR q1] h r h' := sp_of (Nat.le_of_ble_eq_true rfl) rfl k
theorem en_Grasps_isRow {xs : List Int} {h h' : MH} {r : Option MV} {z0 : Int} {z1 : Int} (k : Rn xs 20 0 [vI z0, vI z1, vU, vU] [] h r h') : Sp xs 20 [vI z0, vI z1] h r h' := sp_of (Nat.le_of_ble_eq_true rfl) rfl k
theorem en_Grasps_fewest {xs : List Int} {h h' : MH} {r : Option MV} {z0 : Int} {z1 : Int} (k : Rn xs 21 0 [vI z0, vI z1, vU, vU, vU, vU] [] h r h') : Sp xs 21 [vI z0, vI z1] h r h' := sp_of (Nat.le_of_ble_eq_true rfl) rfl k
theorem en_Grasps_needed {xs : List Int} {h h' : MH} {r : Option MV} {z0 : Int} {z1 : Int} {z2 : Int} (k : Rn xs 22 0 [vI z0, vI z1, vI z2, vU, vU] [] h r h') : Sp xs 22 [vI z0, vI z1, vI z2] h r h' := sp_of (Nat.le_of_ble_eq_true rfl) rfl k
theorem en_Grasps_latest {xs : List Int} {h h' : MH} {r : Option MV} {z0 : Int} {z1 : Int} {z2 : Int} {z3 : Int} (k : Rn xs 23 0 [vI z0, vI z1, vI z2, vI z3, vU, vU, vU] [] h r h') : Sp xs 23 [vI z0, vI z1, vI z2, vI z3] h r h' := sp_of (Nat.le_of_ble_eq_true rfl) rfl k
theorem en_Grasps_nextNeed {xs : List Int} {h h' : MH} {r : Option MV} {z0 : Int} {z1 : Int} {z2 : Int} {z3 : Int} (k : Rn xs 24 0 [vI z0, vI z1, vI z2, vI z3, vU] [] h r h') : Sp xs 24 [vI z0, vI z1, vI z2, vI z3] h r h' := sp_of (Nat.le_of_ble_eq_true rfl) rfl k
theorem en_Image_init {xs : List Int} {h h' : MH} {r : Option MV} {q : Nat} (k : Rn xs 25 0 [vR q] [] h r h') : Sp xs 25 [vR q] h r h' := sp_of (Nat.le_of_ble_eq_true rfl) rfl k
theorem en_Image_keep {xs : List Int} {h h' : MH} {r : Option MV} {q : Nat} {q0 : Nat} {q1 : Nat} (k : Rn xs 26 0 [vR q, vR q0, vR q1] [] h r h') : Sp xs 26 [vR q, vR q0, vR q1] h r h' := sp_of (Nat.le_of_ble_eq_true rfl) rfl k
theorem en_Image_giveBack {xs : List Int} {h h' : MH} {r : Option MV} {q : Nat} {q0 : Nat} {q1 : Nat} (k : Rn xs 27 0 [vR q, vR q0, vR q1] [] h r h') : Sp xs 27 [vR q, vR q0, vR q1] h r h' := sp_of (Nat.le_of_ble_eq_true rfl) rfl k
theorem en_Pad_init {xs : List Int} {h h' : MH} {r : Option MV} {q : Nat} (k : Rn xs 28 0 [vR q] [] h r h') : Sp xs 28 [vR q] h r h' := sp_of (Nat.le_of_ble_eq_true rfl) rfl k
theorem en_Pad_size {xs : List Int} {h h' : MH} {r : Option MV} {q : Nat} (k : Rn xs 29 0 [vR q] [] h r h') : Sp xs 29 [vR q] h r h' := sp_of (Nat.le_of_ble_eq_true rfl) rfl k
theorem en_Pad_add {xs : List Int} {h h' : MH} {r : Option MV} {q : Nat} {z0 : Int} (k : Rn xs 30 0 [vR q, vI z0] [] h r h') : Sp xs 30 [vR q, vI z0] h r h' := sp_of (Nat.le_of_ble_eq_true rfl) rfl k
theorem en_Pad_clear {xs : List Int} {h h' : MH} {r : Option MV} {q : Nat} (k : Rn xs 31 0 [vR q] [] h r h') : Sp xs 31 [vR q] h r h' := sp_of (Nat.le_of_ble_eq_true rfl) rfl k
theorem en_Pad_rewind {xs : List Int} {h h' : MH} {r : Option MV} {q : Nat} (k : Rn xs 32 0 [vR q] [] h r h') : Sp xs 32 [vR q] h r h' := sp_of (Nat.le_of_ble_eq_true rfl) rfl k
theorem en_Pad_isReadOut {xs : List Int} {h h' : MH} {r : Option MV} {q : Nat} (k : Rn xs 33 0 [vR q] [] h r h') : Sp xs 33 [vR q] h r h' := sp_of (Nat.le_of_ble_eq_true rfl) rfl k
theorem en_Pad_kind {xs : List Int} {h h' : MH} {r : Option MV} {q : Nat} (k : Rn xs 34 0 [vR q] [] h r h') : Sp xs 34 [vR q] h r h' := sp_of (Nat.le_of_ble_eq_true rfl) rfl k
theorem en_Pad_rod {xs : List Int} {h h' : MH} {r : Option MV} {q : Nat} (k : Rn xs 35 0 [vR q] [] h r h') : Sp xs 35 [vR q] h r h' := sp_of (Nat.le_of_ble_eq_true rfl) rfl k
theorem en_Pad_number {xs : List Int} {h h' : MH} {r : Option MV} {q : Nat} (k : Rn xs 36 0 [vR q] [] h r h') : Sp xs 36 [vR q] h r h' := sp_of (Nat.le_of_ble_eq_true rfl) rfl k
theorem en_Pad_faultPlace {xs : List Int} {h h' : MH} {r : Option MV} {q : Nat} (k : Rn xs 37 0 [vR q, vU] [] h r h') : Sp xs 37 [vR q] h r h' := sp_of (Nat.le_of_ble_eq_true rfl) rfl k
theorem en_Pad_readAct {xs : List Int} {h h' : MH} {r : Option MV} {q : Nat} (k : Rn xs 38 0 [vR q] [] h r h') : Sp xs 38 [vR q] h r h' := sp_of (Nat.le_of_ble_eq_true rfl) rfl k
theorem en_Pad_takesHandling {xs : List Int} {h h' : MH} {r : Option MV} {q : Nat} (k : Rn xs 39 0 [vR q] [] h r h') : Sp xs 39 [vR q] h r h' := sp_of (Nat.le_of_ble_eq_true rfl) rfl k
theorem en_Pad_takesWay {xs : List Int} {h h' : MH} {r : Option MV} {q : Nat} (k : Rn xs 40 0 [vR q] [] h r h') : Sp xs 40 [vR q] h r h' := sp_of (Nat.le_of_ble_eq_true rfl) rfl k
theorem en_Pad_takes {xs : List Int} {h h' : MH} {r : Option MV} {q : Nat} {z0 : Int} {z1 : Int} (k : Rn xs 41 0 [vR q, vI z0, vI z1] [] h r h') : Sp xs 41 [vR q, vI z0, vI z1] h r h' := sp_of (Nat.le_of_ble_eq_true rfl) rfl k
theorem en_Pad_takesRod {xs : List Int} {h h' : MH} {r : Option MV} {q : Nat} (k : Rn xs 42 0 [vR q, vU] [] h r h') : Sp xs 42 [vR q] h r h' := sp_of (Nat.le_of_ble_eq_true rfl) rfl k
theorem en_Pad_takesDigit {xs : List Int} {h h' : MH} {r : Option MV} {q : Nat} {z0 : Int} {z1 : Int} (k : Rn xs 43 0 [vR q, vI z0, vI z1, vU] [] h r h') : Sp xs 43 [vR q, vI z0, vI z1] h r h' := sp_of (Nat.le_of_ble_eq_true rfl) rfl k
theorem en_Pad_nextSign {xs : List Int} {h h' : MH} {r : Option MV} {q : Nat} (k : Rn xs 44 0 [vR q] [] h r h') : Sp xs 44 [vR q] h r h' := sp_of (Nat.le_of_ble_eq_true rfl) rfl k
theorem en_Passes_init {xs : List Int} {h h' : MH} {r : Option MV} {q : Nat} (k : Rn xs 45 0 [vR q] [] h r h') : Sp xs 45 [vR q] h r h' := sp_of (Nat.le_of_ble_eq_true rfl) rfl k
theorem en_Passes_from {xs : List Int} {h h' : MH} {r : Option MV} {q : Nat} {z0 : Int} (k : Rn xs 46 0 [vR q, vI z0] [] h r h') : Sp xs 46 [vR q, vI z0] h r h' := sp_of (Nat.le_of_ble_eq_true rfl) rfl k
theorem en_Passes_countTo {xs : List Int} {h h' : MH} {r : Option MV} {q : Nat} {q0 : Nat} {z1 : Int} (k : Rn xs 47 0 [vR q, vR q0, vI z1, vU, vU] [] h r h') : Sp xs 47 [vR q, vR q0, vI z1] h r h' := sp_of (Nat.le_of_ble_eq_true rfl) rfl k
theorem en_Passes_leads {xs : List Int} {h h' : MH} {r : Option MV} {q : Nat} {q0 : Nat} {z1 : Int} {z2 : Int} (k : Rn xs 48 0 [vR q, vR q0, vI z1, vI z2, vU] [] h r h') : Sp xs 48 [vR q, vR q0, vI z1, vI z2] h r h' := sp_of (Nat.le_of_ble_eq_true rfl) rfl k
theorem en_Passes_firstFrom {xs : List Int} {h h' : MH} {r : Option MV} {q : Nat} {q0 : Nat} {z1 : Int} (k : Rn xs 49 0 [vR q, vR q0, vI z1, vU, vU, vU, vU] [] h r h') : Sp xs 49 [vR q, vR q0, vI z1] h r h' := sp_of (Nat.le_of_ble_eq_true rfl) rfl k
theorem en_Passes_receiver {xs : List Int} {h h' : MH} {r : Option MV} {q0 : Nat} {z1 : Int} {z2 : Int} (k : Rn xs 50 0 [vR q0, vI z1, vI z2, vU, vU, vU] [] h r h') : Sp xs 50 [vR q0, vI z1, vI z2] h r h' := sp_of (Nat.le_of_ble_eq_true rfl) rfl k
theorem en_Passes_ownOnly {xs : List Int} {h h' : MH} {r : Option MV} {z0 : Int} {z1 : Int} (k : Rn xs 51 0 [vI z0, vI z1] [] h r h') : Sp xs 51 [vI z0, vI z1] h r h' := sp_of (Nat.le_of_ble_eq_true rfl) rfl k
theorem en_Rods_isRod {xs : List Int} {h h' : MH} {r : Option MV} {z0 : Int} (k : Rn xs 52 0 [vI z0] [] h r h') : Sp xs 52 [vI z0] h r h' := sp_of (Nat.le_of_ble_eq_true rfl) rfl k
theorem en_Rods_isMan {xs : List Int} {h h' : MH} {r : Option MV} {z0 : Int} {z1 : Int} (k : Rn xs 53 0 [vI z0, vI z1] [] h r h') : Sp xs 53 [vI z0, vI z1] h r h' := sp_of (Nat.le_of_ble_eq_true rfl) rfl k
theorem en_Rods_sideOf {xs : List Int} {h h' : MH} {r : Option MV} {z0 : Int} (k : Rn xs 54 0 [vI z0] [] h r h') : Sp xs 54 [vI z0] h r h' := sp_of (Nat.le_of_ble_eq_true rfl) rfl k
theorem en_Rods_menOf {xs : List Int} {h h' : MH} {r : Option MV} {z0 : Int} (k : Rn xs 55 0 [vI z0] [] h r h') : Sp xs 55 [vI z0] h r h' := sp_of (Nat.le_of_ble_eq_true rfl) rfl k
theorem en_Rods_gapOf {xs : List Int} {h h' : MH} {r : Option MV} {z0 : Int} (k : Rn xs 56 0 [vI z0] [] h r h') : Sp xs 56 [vI z0] h r h' := sp_of (Nat.le_of_ble_eq_true rfl) rfl k
theorem en_Rods_lastSlide {xs : List Int} {h h' : MH} {r : Option MV} {z0 : Int} (k : Rn xs 57 0 [vI z0] [] h r h') : Sp xs 57 [vI z0] h r h' := sp_of (Nat.le_of_ble_eq_true rfl) rfl k
theorem en_Rods_isOf {xs : List Int} {h h' : MH} {r : Option MV} {z0 : Int} {z1 : Int} (k : Rn xs 58 0 [vI z0, vI z1] [] h r h') : Sp xs 58 [vI z0, vI z1] h r h' := sp_of (Nat.le_of_ble_eq_true rfl) rfl k
theorem en_Rods_keeperOf {xs : List Int} {h h' : MH} {r : Option MV} {z0 : Int} (k : Rn xs 59 0 [vI z0] [] h r h') : Sp xs 59 [vI z0] h r h' := sp_of (Nat.le_of_ble_eq_true rfl) rfl k
theorem en_Rods_backsOf {xs : List Int} {h h' : MH} {r : Option MV} {z0 : Int} (k : Rn xs 60 0 [vI z0] [] h r h') : Sp xs 60 [vI z0] h r h' := sp_of (Nat.le_of_ble_eq_true rfl) rfl k
theorem en_Rods_stepToGoalOf {xs : List Int} {h h' : MH} {r : Option MV} {z0 : Int} (k : Rn xs 61 0 [vI z0] [] h r h') : Sp xs 61 [vI z0] h r h' := sp_of (Nat.le_of_ble_eq_true rfl) rfl k
theorem en_Sights_init {xs : List Int} {h h' : MH} {r : Option MV} {q : Nat} (k : Rn xs 62 0 [vR q] [] h r h') : Sp xs 62 [vR q] h r h' := sp_of (Nat.le_of_ble_eq_true rfl) rfl k
theorem en_Sights_size {xs : List Int} {h h' : MH} {r : Option MV} {q : Nat} (k : Rn xs 63 0 [vR q] [] h r h') : Sp xs 63 [vR q] h r h' := sp_of (Nat.le_of_ble_eq_true rfl) rfl k
theorem en_Sights_add {xs : List Int} {h h' : MH} {r : Option MV} {q : Nat} {z0 : Int} {z1 : Int} (k : Rn xs 64 0 [vR q, vI z0, vI z1] [] h r h') : Sp xs 64 [vR q, vI z0, vI z1] h r h' := sp_of (Nat.le_of_ble_eq_true rfl) rfl k
theorem en_Sights_clear {xs : List Int} {h h' : MH} {r : Option MV} {q : Nat} (k : Rn xs 65 0 [vR q] [] h r h') : Sp xs 65 [vR q] h r h' := sp_of (Nat.le_of_ble_eq_true rfl) rfl k
theorem en_Sights_copyFrom {xs : List Int} {h h' : MH} {r : Option MV} {q : Nat} {q0 : Nat} (k : Rn xs 66 0 [vR q, vR q0] [] h r h') : Sp xs 66 [vR q, vR q0] h r h' := sp_of (Nat.le_of_ble_eq_true rfl) rfl k
theorem en_Sights_findRows {xs : List Int} {h h' : MH} {r : Option MV} {q : Nat} (k : Rn xs 67 0 [vR q, vU] [] h r h') : Sp xs 67 [vR q] h r h' := sp_of (Nat.le_of_ble_eq_true rfl) rfl k
theorem en_Sights_rowFound {xs : List Int} {h h' : MH} {r : Option MV} {q : Nat} {z0 : Int} (k : Rn xs 68 0 [vR q, vI z0] [] h r h') : Sp xs 68 [vR q, vI z0] h r h' := sp_of (Nat.le_of_ble_eq_true rfl) rfl k
theorem en_Sights_bestShot {xs : List Int} {h h' : MH} {r : Option MV} {q : Nat} (k : Rn xs 69 0 [vR q, vU, vU] [] h r h') : Sp xs 69 [vR q] h r h' := sp_of (Nat.le_of_ble_eq_true rfl) rfl k
theorem en_Sights_mostLeft {xs : List Int} {h h' : MH} {r : Option MV} {q : Nat} {z0 : Int} (k : Rn xs 70 0 [vR q, vI z0, vU, vU] [] h r h') : Sp xs 70 [vR q, vI z0] h r h' := sp_of (Nat.le_of_ble_eq_true rfl) rfl k
theorem en_Sights_isRow {xs : List Int} {h h' : MH} {r : Option MV} {z0 : Int} (k : Rn xs 71 0 [vI z0] [] h r h') : Sp xs 71 [vI z0] h r h' := sp_of (Nat.le_of_ble_eq_true rfl) rfl k
theorem en_Sights_fitsAll {xs : List Int} {h h' : MH} {r : Option MV} {q : Nat} {z0 : Int} (k : Rn xs 72 0 [vR q, vI z0, vU] [] h r h') : Sp xs 72 [vR q, vI z0] h r h' := sp_of (Nat.le_of_ble_eq_true rfl) rfl k
theorem en_Sights_sideBy {xs : List Int} {h h' : MH} {r : Option MV} {z0 : Int} {z1 : Int} (k : Rn xs 73 0 [vI z0, vI z1, vU] [] h r h') : Sp xs 73 [vI z0, vI z1] h r h' := sp_of (Nat.le_of_ble_eq_true rfl) rfl k
theorem en_Table_init {xs : List Int} {h h' : MH} {r : Option MV} {q : Nat} (k : Rn xs 74 0 [vR q, vU] [] h r h') : Sp xs 74 [vR q] h r h' := sp_of (Nat.le_of_ble_eq_true rfl) rfl k
theorem en_Table_copyFrom {xs : List Int} {h h' : MH} {r : Option MV} {q : Nat} {q0 : Nat} (k : Rn xs 75 0 [vR q, vR q0] [] h r h') : Sp xs 75 [vR q, vR q0] h r h' := sp_of (Nat.le_of_ble_eq_true rfl) rfl k
theorem en_Table_slideOf {xs : List Int} {h h' : MH} {r : Option MV} {q : Nat} {z0 : Int} (k : Rn xs 76 0 [vR q, vI z0] [] h r h') : Sp xs 76 [vR q, vI z0] h r h' := sp_of (Nat.le_of_ble_eq_true rfl) rfl k
theorem en_Table_slideTo {xs : List Int} {h h' : MH} {r : Option MV} {q : Nat} {z0 : Int} {z1 : Int} (k : Rn xs 77 0 [vR q, vI z0, vI z1] [] h r h') : Sp xs 77 [vR q, vI z0, vI z1] h r h' := sp_of (Nat.le_of_ble_eq_true rfl) rfl k
theorem en_Table_scoredBy {xs : List Int} {h h' : MH} {r : Option MV} {q : Nat} {z0 : Int} (k : Rn xs 78 0 [vR q, vI z0] [] h r h') : Sp xs 78 [vR q, vI z0] h r h' := sp_of (Nat.le_of_ble_eq_true rfl) rfl k
theorem en_Table_setScored {xs : List Int} {h h' : MH} {r : Option MV} {q : Nat} {z0 : Int} {z1 : Int} (k : Rn xs 79 0 [vR q, vI z0, vI z1] [] h r h') : Sp xs 79 [vR q, vI z0, vI z1] h r h' := sp_of (Nat.le_of_ble_eq_true rfl) rfl k
theorem en_Table_scoredInAll {xs : List Int} {h h' : MH} {r : Option MV} {q : Nat} (k : Rn xs 80 0 [vR q] [] h r h') : Sp xs 80 [vR q] h r h' := sp_of (Nat.le_of_ble_eq_true rfl) rfl k
theorem en_Table_heldRods {xs : List Int} {h h' : MH} {r : Option MV} {q : Nat} (k : Rn xs 81 0 [vR q] [] h r h') : Sp xs 81 [vR q] h r h' := sp_of (Nat.le_of_ble_eq_true rfl) rfl k
theorem en_Table_isHeld {xs : List Int} {h h' : MH} {r : Option MV} {q : Nat} {z0 : Int} (k : Rn xs 82 0 [vR q, vI z0] [] h r h') : Sp xs 82 [vR q, vI z0] h r h' := sp_of (Nat.le_of_ble_eq_true rfl) rfl k
theorem en_Table_heldBy {xs : List Int} {h h' : MH} {r : Option MV} {q : Nat} {z0 : Int} (k : Rn xs 83 0 [vR q, vI z0, vU, vU] [] h r h') : Sp xs 83 [vR q, vI z0] h r h' := sp_of (Nat.le_of_ble_eq_true rfl) rfl k
theorem en_Table_setHeld {xs : List Int} {h h' : MH} {r : Option MV} {q : Nat} {z0 : Int} {z1 : Int} (k : Rn xs 84 0 [vR q, vI z0, vI z1] [] h r h') : Sp xs 84 [vR q, vI z0, vI z1] h r h' := sp_of (Nat.le_of_ble_eq_true rfl) rfl k
theorem en_Table_tenth {xs : List Int} {h h' : MH} {r : Option MV} {q : Nat} (k : Rn xs 85 0 [vR q] [] h r h') : Sp xs 85 [vR q] h r h' := sp_of (Nat.le_of_ble_eq_true rfl) rfl k
theorem en_Table_isDead {xs : List Int} {h h' : MH} {r : Option MV} {q : Nat} (k : Rn xs 86 0 [vR q] [] h r h') : Sp xs 86 [vR q] h r h' := sp_of (Nat.le_of_ble_eq_true rfl) rfl k
theorem en_Table_ballRod {xs : List Int} {h h' : MH} {r : Option MV} {q : Nat} (k : Rn xs 87 0 [vR q] [] h r h') : Sp xs 87 [vR q] h r h' := sp_of (Nat.le_of_ble_eq_true rfl) rfl k
theorem en_Table_ballMan {xs : List Int} {h h' : MH} {r : Option MV} {q : Nat} (k : Rn xs 88 0 [vR q] [] h r h') : Sp xs 88 [vR q] h r h' := sp_of (Nat.le_of_ble_eq_true rfl) rfl k
theorem en_Table_ballPlace {xs : List Int} {h h' : MH} {r : Option MV} {q : Nat} (k : Rn xs 89 0 [vR q] [] h r h') : Sp xs 89 [vR q] h r h' := sp_of (Nat.le_of_ble_eq_true rfl) rfl k
theorem en_Table_loseBall {xs : List Int} {h h' : MH} {r : Option MV} {q : Nat} (k : Rn xs 90 0 [vR q] [] h r h') : Sp xs 90 [vR q] h r h' := sp_of (Nat.le_of_ble_eq_true rfl) rfl k
theorem en_Table_giveBall {xs : List Int} {h h' : MH} {r : Option MV} {q : Nat} {z0 : Int} (k : Rn xs 91 0 [vR q, vI z0] [] h r h') : Sp xs 91 [vR q, vI z0] h r h' := sp_of (Nat.le_of_ble_eq_true rfl) rfl k
theorem en_Table_placeOf {xs : List Int} {h h' : MH} {r : Option MV} {q : Nat} {z0 : Int} {z1 : Int} (k : Rn xs 92 0 [vR q, vI z0, vI z1] [] h r h') : Sp xs 92 [vR q, vI z0, vI z1] h r h' := sp_of (Nat.le_of_ble_eq_true rfl) rfl k
theorem en_Table_covererOf {xs : List Int} {h h' : MH} {r : Option MV} {q : Nat} {z0 : Int} {z1 : Int} (k : Rn xs 93 0 [vR q, vI z0, vI z1, vU, vU, vU] [] h r h') : Sp xs 93 [vR q, vI z0, vI z1] h r h' := sp_of (Nat.le_of_ble_eq_true rfl) rfl k
theorem en_Table_nearestOf {xs : List Int} {h h' : MH} {r : Option MV} {q : Nat} {z0 : Int} {z1 : Int} (k : Rn xs 94 0 [vR q, vI z0, vI z1, vU, vU, vU, vU] [] h r h') : Sp xs 94 [vR q, vI z0, vI z1] h r h' := sp_of (Nat.le_of_ble_eq_true rfl) rfl k
theorem en_Table_overFrom {xs : List Int} {h h' : MH} {r : Option MV} {q : Nat} {z0 : Int} {z1 : Int} {z2 : Int} (k : Rn xs 95 0 [vR q, vI z0, vI z1, vI z2, vU, vU, vU, vU, vU, vU, vU] [] h r h') : Sp xs 95 [vR q, vI z0, vI z1, vI z2] h r h' := sp_of (Nat.le_of_ble_eq_true rfl) rfl k
theorem en_Table_shotEnd {xs : List Int} {h h' : MH} {r : Option MV} {q : Nat} {z0 : Int} (k : Rn xs 96 0 [vR q, vI z0, vU, vU, vU, vU, vU] [] h r h') : Sp xs 96 [vR q, vI z0] h r h' := sp_of (Nat.le_of_ble_eq_true rfl) rfl k
theorem en_Table_reachesGoal {xs : List Int} {h h' : MH} {r : Option MV} {q : Nat} {z0 : Int} {z1 : Int} (k : Rn xs 97 0 [vR q, vI z0, vI z1, vU, vU] [] h r h') : Sp xs 97 [vR q, vI z0, vI z1] h r h' := sp_of (Nat.le_of_ble_eq_true rfl) rfl k
theorem en_Table_shotsToGoal {xs : List Int} {h h' : MH} {r : Option MV} {q : Nat} (k : Rn xs 98 0 [vR q, vU, vU, vU] [] h r h') : Sp xs 98 [vR q] h r h' := sp_of (Nat.le_of_ble_eq_true rfl) rfl k
theorem en_Table_shotsPast {xs : List Int} {h h' : MH} {r : Option MV} {q : Nat} {z0 : Int} (k : Rn xs 99 0 [vR q, vI z0, vU, vU, vU, vU] [] h r h') : Sp xs 99 [vR q, vI z0] h r h' := sp_of (Nat.le_of_ble_eq_true rfl) rfl k
theorem en_Table_bounced {xs : List Int} {h h' : MH} {r : Option MV} {z0 : Int} (k : Rn xs 100 0 [vI z0, vU] [] h r h') : Sp xs 100 [vI z0] h r h' := sp_of (Nat.le_of_ble_eq_true rfl) rfl k
theorem en_Table_whyNot {xs : List Int} {h h' : MH} {r : Option MV} {q : Nat} {z0 : Int} {z1 : Int} {z2 : Int} (k : Rn xs 101 0 [vR q, vI z0, vI z1, vI z2] [] h r h') : Sp xs 101 [vR q, vI z0, vI z1, vI z2] h r h' := sp_of (Nat.le_of_ble_eq_true rfl) rfl k
theorem en_Table_isPlayed {xs : List Int} {h h' : MH} {r : Option MV} {z0 : Int} (k : Rn xs 102 0 [vI z0] [] h r h') : Sp xs 102 [vI z0] h r h' := sp_of (Nat.le_of_ble_eq_true rfl) rfl k
theorem en_Table_isHeldWrongly {xs : List Int} {h h' : MH} {r : Option MV} {q : Nat} {z0 : Int} {z1 : Int} (k : Rn xs 103 0 [vR q, vI z0, vI z1] [] h r h') : Sp xs 103 [vR q, vI z0, vI z1] h r h' := sp_of (Nat.le_of_ble_eq_true rfl) rfl k
theorem en_Table_isNextMan {xs : List Int} {h h' : MH} {r : Option MV} {q : Nat} {z0 : Int} (k : Rn xs 104 0 [vR q, vI z0] [] h r h') : Sp xs 104 [vR q, vI z0] h r h' := sp_of (Nat.le_of_ble_eq_true rfl) rfl k
theorem en_Table_perform {xs : List Int} {h h' : MH} {r : Option MV} {q : Nat} {z0 : Int} {z1 : Int} {z2 : Int} (k : Rn xs 105 0 [vR q, vI z0, vI z1, vI z2] [] h r h') : Sp xs 105 [vR q, vI z0, vI z1, vI z2] h r h' := sp_of (Nat.le_of_ble_eq_true rfl) rfl k
theorem en_Table_endShot {xs : List Int} {h h' : MH} {r : Option MV} {q : Nat} {z0 : Int} (k : Rn xs 106 0 [vR q, vI z0, vU] [] h r h') : Sp xs 106 [vR q, vI z0] h r h' := sp_of (Nat.le_of_ble_eq_true rfl) rfl k
theorem en_Table_tryDrawn {xs : List Int} {h h' : MH} {r : Option MV} {q : Nat} {z0 : Int} (k : Rn xs 107 0 [vR q, vI z0, vU, vU, vU] [] h r h') : Sp xs 107 [vR q, vI z0] h r h' := sp_of (Nat.le_of_ble_eq_true rfl) rfl k
theorem en_Table_drawnNumber {xs : List Int} {h h' : MH} {r : Option MV} {z0 : Int} {z1 : Int} (k : Rn xs 108 0 [vI z0, vI z1] [] h r h') : Sp xs 108 [vI z0, vI z1] h r h' := sp_of (Nat.le_of_ble_eq_true rfl) rfl k
theorem en_F_init {xs : List Int} {h h' : MH} {r : Option MV} {q : Nat} (k : Rn xs 109 0 [vR q] [] h r h') : Sp xs 109 [vR q] h r h' := sp_of (Nat.le_of_ble_eq_true rfl) rfl k
theorem en_F_slide {xs : List Int} {h h' : MH} {r : Option MV} {q : Nat} {z0 : Int} {z1 : Int} (k : Rn xs 110 0 [vR q, vI z0, vI z1, vU] [] h r h') : Sp xs 110 [vR q, vI z0, vI z1] h r h' := sp_of (Nat.le_of_ble_eq_true rfl) rfl k
theorem en_F_hold {xs : List Int} {h h' : MH} {r : Option MV} {q : Nat} {z0 : Int} {z1 : Int} (k : Rn xs 111 0 [vR q, vI z0, vI z1, vU] [] h r h') : Sp xs 111 [vR q, vI z0, vI z1] h r h' := sp_of (Nat.le_of_ble_eq_true rfl) rfl k
theorem en_F_ball {xs : List Int} {h h' : MH} {r : Option MV} {q : Nat} {z0 : Int} {z1 : Int} (k : Rn xs 112 0 [vR q, vI z0, vI z1] [] h r h') : Sp xs 112 [vR q, vI z0, vI z1] h r h' := sp_of (Nat.le_of_ble_eq_true rfl) rfl k
theorem en_F_goals {xs : List Int} {h h' : MH} {r : Option MV} {q : Nat} {z0 : Int} {z1 : Int} (k : Rn xs 113 0 [vR q, vI z0, vI z1, vU] [] h r h') : Sp xs 113 [vR q, vI z0, vI z1] h r h' := sp_of (Nat.le_of_ble_eq_true rfl) rfl k
theorem en_F_say {xs : List Int} {h h' : MH} {r : Option MV} {q : Nat} {z0 : Int} (k : Rn xs 114 0 [vR q, vI z0] [] h r h') : Sp xs 114 [vR q, vI z0] h r h' := sp_of (Nat.le_of_ble_eq_true rfl) rfl k
theorem en_F_wipe {xs : List Int} {h h' : MH} {r : Option MV} {q : Nat} (k : Rn xs 115 0 [vR q, vU] [] h r h') : Sp xs 115 [vR q] h r h' := sp_of (Nat.le_of_ble_eq_true rfl) rfl k
theorem en_F_fault {xs : List Int} {h h' : MH} {r : Option MV} {q : Nat} (k : Rn xs 116 0 [vR q] [] h r h') : Sp xs 116 [vR q] h r h' := sp_of (Nat.le_of_ble_eq_true rfl) rfl k
theorem en_F_judge {xs : List Int} {h h' : MH} {r : Option MV} {q : Nat} {z0 : Int} (k : Rn xs 117 0 [vR q, vI z0] [] h r h') : Sp xs 117 [vR q, vI z0] h r h' := sp_of (Nat.le_of_ble_eq_true rfl) rfl k
theorem en_F_done {xs : List Int} {h h' : MH} {r : Option MV} {q : Nat} (k : Rn xs 118 0 [vR q] [] h r h') : Sp xs 118 [vR q] h r h' := sp_of (Nat.le_of_ble_eq_true rfl) rfl k
theorem en_F_behind {xs : List Int} {h h' : MH} {r : Option MV} {q : Nat} {z0 : Int} {z1 : Int} (k : Rn xs 119 0 [vR q, vI z0, vI z1] [] h r h') : Sp xs 119 [vR q, vI z0, vI z1] h r h' := sp_of (Nat.le_of_ble_eq_true rfl) rfl k
theorem en_F_then {xs : List Int} {h h' : MH} {r : Option MV} {q : Nat} {z0 : Int} (k : Rn xs 120 0 [vR q, vI z0, vU] [] h r h') : Sp xs 120 [vR q, vI z0] h r h' := sp_of (Nat.le_of_ble_eq_true rfl) rfl k
theorem en_F_ends {xs : List Int} {h h' : MH} {r : Option MV} {q : Nat} {z0 : Int} (k : Rn xs 121 0 [vR q, vI z0] [] h r h') : Sp xs 121 [vR q, vI z0] h r h' := sp_of (Nat.le_of_ble_eq_true rfl) rfl k
theorem en_F_goesIn {xs : List Int} {h h' : MH} {r : Option MV} {q : Nat} (k : Rn xs 122 0 [vR q, vU, vU] [] h r h') : Sp xs 122 [vR q] h r h' := sp_of (Nat.le_of_ble_eq_true rfl) rfl k
theorem en_F_path {xs : List Int} {h h' : MH} {r : Option MV} {q : Nat} {z0 : Int} {z1 : Int} {z2 : Int} (k : Rn xs 123 0 [vR q, vI z0, vI z1, vI z2, vU] [] h r h') : Sp xs 123 [vR q, vI z0, vI z1, vI z2] h r h' := sp_of (Nat.le_of_ble_eq_true rfl) rfl k
theorem en_F_stand {xs : List Int} {h h' : MH} {r : Option MV} {q : Nat} {z0 : Int} (k : Rn xs 124 0 [vR q, vI z0] [] h r h') : Sp xs 124 [vR q, vI z0] h r h' := sp_of (Nat.le_of_ble_eq_true rfl) rfl k
theorem en_F_mix {xs : List Int} {h h' : MH} {r : Option MV} {q : Nat} {z0 : Int} {z1 : Int} {z2 : Int} {z3 : Int} {z4 : Int} {z5 : Int} (k : Rn xs 125 0 [vR q, vI z0, vI z1, vI z2, vI z3, vI z4, vI z5] [] h r h') : Sp xs 125 [vR q, vI z0, vI z1, vI z2, vI z3, vI z4, vI z5] h r h' := sp_of (Nat.le_of_ble_eq_true rfl) rfl k
theorem en_F_hands {xs : List Int} {h h' : MH} {r : Option MV} {q : Nat} {z0 : Int} {z1 : Int} (k : Rn xs 126 0 [vR q, vI z0, vI z1] [] h r h') : Sp xs 126 [vR q, vI z0, vI z1] h r h' := sp_of (Nat.le_of_ble_eq_true rfl) rfl k
theorem en_F_truly {xs : List Int} {h h' : MH} {r : Option MV} {q : Nat} {z0 : Int} {z1 : Int} {z2 : Int} {z3 : Int} {z4 : Int} (k : Rn xs 127 0 [vR q, vI z0, vI z1, vI z2, vI z3, vI z4] [] h r h') : Sp xs 127 [vR q, vI z0, vI z1, vI z2, vI z3, vI z4] h r h' := sp_of (Nat.le_of_ble_eq_true rfl) rfl k
theorem en_F_race {xs : List Int} {h h' : MH} {r : Option MV} {q : Nat} {z0 : Int} {z1 : Int} {z2 : Int} {z3 : Int} (k : Rn xs 128 0 [vR q, vI z0, vI z1, vI z2, vI z3] [] h r h') : Sp xs 128 [vR q, vI z0, vI z1, vI z2, vI z3] h r h' := sp_of (Nat.le_of_ble_eq_true rfl) rfl k
theorem en_F_seen {xs : List Int} {h h' : MH} {r : Option MV} {q : Nat} {z0 : Int} {z1 : Int} (k : Rn xs 129 0 [vR q, vI z0, vI z1] [] h r h') : Sp xs 129 [vR q, vI z0, vI z1] h r h' := sp_of (Nat.le_of_ble_eq_true rfl) rfl k
theorem en_F_forget {xs : List Int} {h h' : MH} {r : Option MV} {q : Nat} (k : Rn xs 130 0 [vR q, vU] [] h r h') : Sp xs 130 [vR q] h r h' := sp_of (Nat.le_of_ble_eq_true rfl) rfl k
theorem en_F_fits {xs : List Int} {h h' : MH} {r : Option MV} {q : Nat} {z0 : Int} (k : Rn xs 131 0 [vR q, vI z0, vU] [] h r h') : Sp xs 131 [vR q, vI z0] h r h' := sp_of (Nat.le_of_ble_eq_true rfl) rfl k
theorem en_F_ask {xs : List Int} {h h' : MH} {r : Option MV} {q : Nat} {z0 : Int} (k : Rn xs 132 0 [vR q, vI z0, vU] [] h r h') : Sp xs 132 [vR q, vI z0] h r h' := sp_of (Nat.le_of_ble_eq_true rfl) rfl k
theorem en_F_year {xs : List Int} {h h' : MH} {r : Option MV} {q : Nat} {z0 : Int} {z1 : Int} {z2 : Int} (k : Rn xs 133 0 [vR q, vI z0, vI z1, vI z2, vU, vU] [] h r h') : Sp xs 133 [vR q, vI z0, vI z1, vI z2] h r h' := sp_of (Nat.le_of_ble_eq_true rfl) rfl k
theorem en_F_image {xs : List Int} {h h' : MH} {r : Option MV} {q : Nat} {z0 : Int} (k : Rn xs 134 0 [vR q, vI z0] [] h r h') : Sp xs 134 [vR q, vI z0] h r h' := sp_of (Nat.le_of_ble_eq_true rfl) rfl k
theorem en_F_restore {xs : List Int} {h h' : MH} {r : Option MV} {q : Nat} {z0 : Int} (k : Rn xs 135 0 [vR q, vI z0] [] h r h') : Sp xs 135 [vR q, vI z0] h r h' := sp_of (Nat.le_of_ble_eq_true rfl) rfl k
theorem en_F_told {xs : List Int} {h h' : MH} {r : Option MV} {q : Nat} {z0 : Int} (k : Rn xs 136 0 [vR q, vI z0] [] h r h') : Sp xs 136 [vR q, vI z0] h r h' := sp_of (Nat.le_of_ble_eq_true rfl) rfl k
theorem en_F_toldByNumber {xs : List Int} {h h' : MH} {r : Option MV} {q : Nat} {z0 : Int} (k : Rn xs 137 0 [vR q, vI z0, vU, vU] [] h r h') : Sp xs 137 [vR q, vI z0] h r h' := sp_of (Nat.le_of_ble_eq_true rfl) rfl k
theorem en_F_playsThrough {xs : List Int} {h h' : MH} {r : Option MV} {q : Nat} (k : Rn xs 138 0 [vR q] [] h r h') : Sp xs 138 [vR q] h r h' := sp_of (Nat.le_of_ble_eq_true rfl) rfl k
theorem en_F_imageOf {xs : List Int} {h h' : MH} {r : Option MV} {q : Nat} {z0 : Int} (k : Rn xs 139 0 [vR q, vI z0] [] h r h') : Sp xs 139 [vR q, vI z0] h r h' := sp_of (Nat.le_of_ble_eq_true rfl) rfl k
theorem en_F_isWithin {xs : List Int} {h h' : MH} {r : Option MV} {z0 : Int} {z1 : Int} {z2 : Int} (k : Rn xs 140 0 [vI z0, vI z1, vI z2] [] h r h') : Sp xs 140 [vI z0, vI z1, vI z2] h r h' := sp_of (Nat.le_of_ble_eq_true rfl) rfl k
theorem en_F_isBit {xs : List Int} {h h' : MH} {r : Option MV} {z0 : Int} (k : Rn xs 141 0 [vI z0] [] h r h') : Sp xs 141 [vI z0] h r h' := sp_of (Nat.le_of_ble_eq_true rfl) rfl k
theorem en_F_isTenths {xs : List Int} {h h' : MH} {r : Option MV} {z0 : Int} (k : Rn xs 142 0 [vI z0] [] h r h') : Sp xs 142 [vI z0] h r h' := sp_of (Nat.le_of_ble_eq_true rfl) rfl k
theorem en_F_shotBit {xs : List Int} {h h' : MH} {r : Option MV} {z0 : Int} (k : Rn xs 143 0 [vI z0] [] h r h') : Sp xs 143 [vI z0] h r h' := sp_of (Nat.le_of_ble_eq_true rfl) rfl k
theorem en_F_copyRow {xs : List Int} {h h' : MH} {r : Option MV} {q0 : Nat} {q1 : Nat} (k : Rn xs 144 0 [vR q0, vR q1, vU] [] h r h') : Sp xs 144 [vR q0, vR q1] h r h' := sp_of (Nat.le_of_ble_eq_true rfl) rfl k
theorem en_M_init {xs : List Int} {h h' : MH} {r : Option MV} {q : Nat} (k : Rn xs 145 0 [vR q, vU] [] h r h') : Sp xs 145 [vR q] h r h' := sp_of (Nat.le_of_ble_eq_true rfl) rfl k
theorem en_M_in {xs : List Int} {h h' : MH} {r : Option MV} {z0 : Int} {z1 : Int} {z2 : Int} (k : Rn xs 146 0 [vI z0, vI z1, vI z2] [] h r h') : Sp xs 146 [vI z0, vI z1, vI z2] h r h' := sp_of (Nat.le_of_ble_eq_true rfl) rfl k
theorem en_M_bits {xs : List Int} {h h' : MH} {r : Option MV} {z0 : Int} (k : Rn xs 147 0 [vI z0, vU, vU] [] h r h') : Sp xs 147 [vI z0] h r h' := sp_of (Nat.le_of_ble_eq_true rfl) rfl k
theorem en_M_isRod {xs : List Int} {h h' : MH} {r : Option MV} {z0 : Int} (k : Rn xs 148 0 [vI z0] [] h r h') : Sp xs 148 [vI z0] h r h' := sp_of (Nat.le_of_ble_eq_true rfl) rfl k
theorem en_M_sideOf {xs : List Int} {h h' : MH} {r : Option MV} {z0 : Int} (k : Rn xs 149 0 [vI z0] [] h r h') : Sp xs 149 [vI z0] h r h' := sp_of (Nat.le_of_ble_eq_true rfl) rfl k
theorem en_M_kindOf {xs : List Int} {h h' : MH} {r : Option MV} {z0 : Int} (k : Rn xs 150 0 [vI z0, vU] [] h r h') : Sp xs 150 [vI z0] h r h' := sp_of (Nat.le_of_ble_eq_true rfl) rfl k
theorem en_M_menOf {xs : List Int} {h h' : MH} {r : Option MV} {z0 : Int} (k : Rn xs 151 0 [vI z0, vU] [] h r h') : Sp xs 151 [vI z0] h r h' := sp_of (Nat.le_of_ble_eq_true rfl) rfl k
theorem en_M_apartOf {xs : List Int} {h h' : MH} {r : Option MV} {z0 : Int} (k : Rn xs 152 0 [vI z0, vU] [] h r h') : Sp xs 152 [vI z0] h r h' := sp_of (Nat.le_of_ble_eq_true rfl) rfl k
theorem en_M_widest {xs : List Int} {h h' : MH} {r : Option MV} {z0 : Int} (k : Rn xs 153 0 [vI z0] [] h r h') : Sp xs 153 [vI z0] h r h' := sp_of (Nat.le_of_ble_eq_true rfl) rfl k
theorem en_M_isMan {xs : List Int} {h h' : MH} {r : Option MV} {z0 : Int} {z1 : Int} (k : Rn xs 154 0 [vI z0, vI z1] [] h r h') : Sp xs 154 [vI z0, vI z1] h r h' := sp_of (Nat.le_of_ble_eq_true rfl) rfl k
theorem en_M_held {xs : List Int} {h h' : MH} {r : Option MV} {q : Nat} {z0 : Int} {z1 : Int} (k : Rn xs 155 0 [vR q, vI z0, vI z1, vU, vU] [] h r h') : Sp xs 155 [vR q, vI z0, vI z1] h r h' := sp_of (Nat.le_of_ble_eq_true rfl) rfl k
theorem en_M_slide {xs : List Int} {h h' : MH} {r : Option MV} {q : Nat} {z0 : Int} {z1 : Int} (k : Rn xs 156 0 [vR q, vI z0, vI z1, vU] [] h r h') : Sp xs 156 [vR q, vI z0, vI z1] h r h' := sp_of (Nat.le_of_ble_eq_true rfl) rfl k
theorem en_M_hold {xs : List Int} {h h' : MH} {r : Option MV} {q : Nat} {z0 : Int} {z1 : Int} (k : Rn xs 157 0 [vR q, vI z0, vI z1] [] h r h') : Sp xs 157 [vR q, vI z0, vI z1] h r h' := sp_of (Nat.le_of_ble_eq_true rfl) rfl k
theorem en_M_ball {xs : List Int} {h h' : MH} {r : Option MV} {q : Nat} {z0 : Int} {z1 : Int} (k : Rn xs 158 0 [vR q, vI z0, vI z1] [] h r h') : Sp xs 158 [vR q, vI z0, vI z1] h r h' := sp_of (Nat.le_of_ble_eq_true rfl) rfl k
theorem en_M_goals {xs : List Int} {h h' : MH} {r : Option MV} {q : Nat} {z0 : Int} {z1 : Int} (k : Rn xs 159 0 [vR q, vI z0, vI z1, vU] [] h r h') : Sp xs 159 [vR q, vI z0, vI z1] h r h' := sp_of (Nat.le_of_ble_eq_true rfl) rfl k
theorem en_M_say {xs : List Int} {h h' : MH} {r : Option MV} {q : Nat} {z0 : Int} (k : Rn xs 160 0 [vR q, vI z0] [] h r h') : Sp xs 160 [vR q, vI z0] h r h' := sp_of (Nat.le_of_ble_eq_true rfl) rfl k
theorem en_M_wipe {xs : List Int} {h h' : MH} {r : Option MV} {q : Nat} (k : Rn xs 161 0 [vR q, vU] [] h r h') : Sp xs 161 [vR q] h r h' := sp_of (Nat.le_of_ble_eq_true rfl) rfl k
theorem en_M_step {xs : List Int} {h h' : MH} {r : Option MV} {z0 : Int} {z1 : Int} (k : Rn xs 162 0 [vI z0, vI z1, vU, vU] [] h r h') : Sp xs 162 [vI z0, vI z1] h r h' := sp_of (Nat.le_of_ble_eq_true rfl) rfl k
theorem en_M_faultOf {xs : List Int} {h h' : MH} {r : Option MV} {q : Nat} (k : Rn xs 163 0 [vR q, vU, vU] [] h r h') : Sp xs 163 [vR q] h r h' := sp_of (Nat.le_of_ble_eq_true rfl) rfl k
theorem en_M_fault {xs : List Int} {h h' : MH} {r : Option MV} {q : Nat} (k : Rn xs 164 0 [vR q] [] h r h') : Sp xs 164 [vR q] h r h' := sp_of (Nat.le_of_ble_eq_true rfl) rfl k
theorem en_M_standsAt {xs : List Int} {h h' : MH} {r : Option MV} {q : Nat} {z0 : Int} {z1 : Int} (k : Rn xs 165 0 [vR q, vI z0, vI z1] [] h r h') : Sp xs 165 [vR q, vI z0, vI z1] h r h' := sp_of (Nat.le_of_ble_eq_true rfl) rfl k
theorem en_M_covers {xs : List Int} {h h' : MH} {r : Option MV} {q : Nat} {z0 : Int} {z1 : Int} (k : Rn xs 166 0 [vR q, vI z0, vI z1, vU] [] h r h') : Sp xs 166 [vR q, vI z0, vI z1] h r h' := sp_of (Nat.le_of_ble_eq_true rfl) rfl k
theorem en_M_shotBy {xs : List Int} {h h' : MH} {r : Option MV} {q : Nat} {z0 : Int} (k : Rn xs 167 0 [vR q, vI z0, vU, vU, vU, vU, vU, vU] [] h r h') : Sp xs 167 [vR q, vI z0] h r h' := sp_of (Nat.le_of_ble_eq_true rfl) rfl k
theorem en_M_overBy {xs : List Int} {h h' : MH} {r : Option MV} {q : Nat} {z0 : Int} {z1 : Int} {z2 : Int} (k : Rn xs 168 0 [vR q, vI z0, vI z1, vI z2, vU, vU, vU, vU] [] h r h') : Sp xs 168 [vR q, vI z0, vI z1, vI z2] h r h' := sp_of (Nat.le_of_ble_eq_true rfl) rfl k
theorem en_M_asNow {xs : List Int} {h h' : MH} {r : Option MV} {q : Nat} (k : Rn xs 169 0 [vR q, vU] [] h r h') : Sp xs 169 [vR q] h r h' := sp_of (Nat.le_of_ble_eq_true rfl) rfl k
theorem en_M_isOver {xs : List Int} {h h' : MH} {r : Option MV} {q : Nat} (k : Rn xs 170 0 [vR q] [] h r h') : Sp xs 170 [vR q] h r h' := sp_of (Nat.le_of_ble_eq_true rfl) rfl k
theorem en_M_grasp {xs : List Int} {h h' : MH} {r : Option MV} {q : Nat} {z0 : Int} (k : Rn xs 171 0 [vR q, vI z0] [] h r h') : Sp xs 171 [vR q, vI z0] h r h' := sp_of (Nat.le_of_ble_eq_true rfl) rfl k
theorem en_M_letGo {xs : List Int} {h h' : MH} {r : Option MV} {q : Nat} {z0 : Int} (k : Rn xs 172 0 [vR q, vI z0] [] h r h') : Sp xs 172 [vR q, vI z0] h r h' := sp_of (Nat.le_of_ble_eq_true rfl) rfl k
theorem en_M_slideBy {xs : List Int} {h h' : MH} {r : Option MV} {q : Nat} {z0 : Int} {z1 : Int} (k : Rn xs 173 0 [vR q, vI z0, vI z1] [] h r h') : Sp xs 173 [vR q, vI z0, vI z1] h r h' := sp_of (Nat.le_of_ble_eq_true rfl) rfl k
theorem en_M_whyNot {xs : List Int} {h h' : MH} {r : Option MV} {q : Nat} (k : Rn xs 174 0 [vR q] [] h r h') : Sp xs 174 [vR q] h r h' := sp_of (Nat.le_of_ble_eq_true rfl) rfl k
theorem en_M_passTo {xs : List Int} {h h' : MH} {r : Option MV} {q : Nat} {z0 : Int} (k : Rn xs 175 0 [vR q, vI z0, vU] [] h r h') : Sp xs 175 [vR q, vI z0] h r h' := sp_of (Nat.le_of_ble_eq_true rfl) rfl k
theorem en_M_passOver {xs : List Int} {h h' : MH} {r : Option MV} {q : Nat} {z0 : Int} (k : Rn xs 176 0 [vR q, vI z0, vU, vU] [] h r h') : Sp xs 176 [vR q, vI z0] h r h' := sp_of (Nat.le_of_ble_eq_true rfl) rfl k
theorem en_M_shoot {xs : List Int} {h h' : MH} {r : Option MV} {q : Nat} {z0 : Int} (k : Rn xs 177 0 [vR q, vI z0, vU, vU, vU] [] h r h') : Sp xs 177 [vR q, vI z0] h r h' := sp_of (Nat.le_of_ble_eq_true rfl) rfl k
theorem en_M_throwIn {xs : List Int} {h h' : MH} {r : Option MV} {q : Nat} {z0 : Int} {z1 : Int} (k : Rn xs 178 0 [vR q, vI z0, vI z1] [] h r h') : Sp xs 178 [vR q, vI z0, vI z1] h r h' := sp_of (Nat.le_of_ble_eq_true rfl) rfl k
theorem en_M_endTenth {xs : List Int} {h h' : MH} {r : Option MV} {q : Nat} (k : Rn xs 179 0 [vR q] [] h r h') : Sp xs 179 [vR q] h r h' := sp_of (Nat.le_of_ble_eq_true rfl) rfl k
theorem en_M_rodAct {xs : List Int} {h h' : MH} {r : Option MV} {q : Nat} {z0 : Int} (k : Rn xs 180 0 [vR q, vI z0, vU, vU] [] h r h') : Sp xs 180 [vR q, vI z0] h r h' := sp_of (Nat.le_of_ble_eq_true rfl) rfl k
theorem en_M_nextAct {xs : List Int} {h h' : MH} {r : Option MV} {q : Nat} (k : Rn xs 181 0 [vR q, vU] [] h r h') : Sp xs 181 [vR q] h r h' := sp_of (Nat.le_of_ble_eq_true rfl) rfl k
theorem en_M_goEvenings {xs : List Int} {h h' : MH} {r : Option MV} {q : Nat} (k : Rn xs 182 0 [vR q, vU] [] h r h') : Sp xs 182 [vR q] h r h' := sp_of (Nat.le_of_ble_eq_true rfl) rfl k
theorem en_M_judge {xs : List Int} {h h' : MH} {r : Option MV} {q : Nat} {z0 : Int} (k : Rn xs 183 0 [vR q, vI z0, vU] [] h r h') : Sp xs 183 [vR q, vI z0] h r h' := sp_of (Nat.le_of_ble_eq_true rfl) rfl k
theorem en_M_barOfEvenings {xs : List Int} {h h' : MH} {r : Option MV} {q : Nat} (k : Rn xs 184 0 [vR q] [] h r h') : Sp xs 184 [vR q] h r h' := sp_of (Nat.le_of_ble_eq_true rfl) rfl k
theorem en_M_done {xs : List Int} {h h' : MH} {r : Option MV} {q : Nat} (k : Rn xs 185 0 [vR q, vU] [] h r h') : Sp xs 185 [vR q] h r h' := sp_of (Nat.le_of_ble_eq_true rfl) rfl k
theorem en_M_behind {xs : List Int} {h h' : MH} {r : Option MV} {q : Nat} {z0 : Int} {z1 : Int} (k : Rn xs 186 0 [vR q, vI z0, vI z1] [] h r h') : Sp xs 186 [vR q, vI z0, vI z1] h r h' := sp_of (Nat.le_of_ble_eq_true rfl) rfl k
theorem en_M_then {xs : List Int} {h h' : MH} {r : Option MV} {q : Nat} {z0 : Int} (k : Rn xs 187 0 [vR q, vI z0] [] h r h') : Sp xs 187 [vR q, vI z0] h r h' := sp_of (Nat.le_of_ble_eq_true rfl) rfl k
theorem en_M_ends {xs : List Int} {h h' : MH} {r : Option MV} {q : Nat} {z0 : Int} (k : Rn xs 188 0 [vR q, vI z0] [] h r h') : Sp xs 188 [vR q, vI z0] h r h' := sp_of (Nat.le_of_ble_eq_true rfl) rfl k
theorem en_M_allIn {xs : List Int} {h h' : MH} {r : Option MV} {q : Nat} (k : Rn xs 189 0 [vR q, vU, vU] [] h r h') : Sp xs 189 [vR q] h r h' := sp_of (Nat.le_of_ble_eq_true rfl) rfl k
theorem en_M_goesIn {xs : List Int} {h h' : MH} {r : Option MV} {q : Nat} (k : Rn xs 190 0 [vR q] [] h r h') : Sp xs 190 [vR q] h r h' := sp_of (Nat.le_of_ble_eq_true rfl) rfl k
theorem en_M_passes {xs : List Int} {h h' : MH} {r : Option MV} {q : Nat} {z0 : Int} {z1 : Int} {z2 : Int} {z3 : Int} (k : Rn xs 191 0 [vR q, vI z0, vI z1, vI z2, vI z3] [] h r h') : Sp xs 191 [vR q, vI z0, vI z1, vI z2, vI z3] h r h' := sp_of (Nat.le_of_ble_eq_true rfl) rfl k
theorem en_M_path {xs : List Int} {h h' : MH} {r : Option MV} {q : Nat} {z0 : Int} {z1 : Int} {z2 : Int} (k : Rn xs 192 0 [vR q, vI z0, vI z1, vI z2, vU, vU, vU] [] h r h') : Sp xs 192 [vR q, vI z0, vI z1, vI z2] h r h' := sp_of (Nat.le_of_ble_eq_true rfl) rfl k
theorem en_M_stand {xs : List Int} {h h' : MH} {r : Option MV} {q : Nat} {z0 : Int} (k : Rn xs 193 0 [vR q, vI z0, vU, vU, vU, vU, vU, vU, vU] [] h r h') : Sp xs 193 [vR q, vI z0] h r h' := sp_of (Nat.le_of_ble_eq_true rfl) rfl k
theorem en_M_lowest {xs : List Int} {h h' : MH} {r : Option MV} {z0 : Int} {z1 : Int} {z2 : Int} (k : Rn xs 194 0 [vL z0, vU, vL z1, vU, vI z2, vU, vU, vU, vU, vU, vU, vU, vU, vU, vU] [] h r h') : Sp xs 194 [vL z0, vL z1, vI z2] h r h' := sp_of (Nat.le_of_ble_eq_true rfl) rfl k
theorem en_M_mix {xs : List Int} {h h' : MH} {r : Option MV} {q : Nat} {z0 : Int} {z1 : Int} {z2 : Int} {z3 : Int} {z4 : Int} {z5 : Int} (k : Rn xs 195 0 [vR q, vI z0, vI z1, vI z2, vI z3, vI z4, vI z5, vU, vU, vU, vU, vU, vU, vU] [] h r h') : Sp xs 195 [vR q, vI z0, vI z1, vI z2, vI z3, vI z4, vI z5] h r h' := sp_of (Nat.le_of_ble_eq_true rfl) rfl k
theorem en_M_hands {xs : List Int} {h h' : MH} {r : Option MV} {q : Nat} {z0 : Int} {z1 : Int} (k : Rn xs 196 0 [vR q, vI z0, vI z1, vU, vU, vU, vU, vU, vU, vU, vU, vU, vU] [] h r h') : Sp xs 196 [vR q, vI z0, vI z1] h r h' := sp_of (Nat.le_of_ble_eq_true rfl) rfl k
theorem en_M_power {xs : List Int} {h h' : MH} {r : Option MV} {z0 : Int} {z1 : Int} (k : Rn xs 197 0 [vL z0, vU, vI z1, vU, vU, vU] [] h r h') : Sp xs 197 [vL z0, vI z1] h r h' := sp_of (Nat.le_of_ble_eq_true rfl) rfl k
theorem en_M_truly {xs : List Int} {h h' : MH} {r : Option MV} {q : Nat} {z0 : Int} {z1 : Int} {z2 : Int} {z3 : Int} {z4 : Int} (k : Rn xs 198 0 [vR q, vI z0, vI z1, vI z2, vI z3, vI z4, vU, vU, vU, vU] [] h r h') : Sp xs 198 [vR q, vI z0, vI z1, vI z2, vI z3, vI z4] h r h' := sp_of (Nat.le_of_ble_eq_true rfl) rfl k
theorem en_M_race {xs : List Int} {h h' : MH} {r : Option MV} {q : Nat} {z0 : Int} {z1 : Int} {z2 : Int} {z3 : Int} (k : Rn xs 199 0 [vR q, vI z0, vI z1, vI z2, vI z3, vU, vU] [] h r h') : Sp xs 199 [vR q, vI z0, vI z1, vI z2, vI z3] h r h' := sp_of (Nat.le_of_ble_eq_true rfl) rfl k
theorem en_M_seen {xs : List Int} {h h' : MH} {r : Option MV} {q : Nat} {z0 : Int} {z1 : Int} (k : Rn xs 200 0 [vR q, vI z0, vI z1] [] h r h') : Sp xs 200 [vR q, vI z0, vI z1] h r h' := sp_of (Nat.le_of_ble_eq_true rfl) rfl k
theorem en_M_forget {xs : List Int} {h h' : MH} {r : Option MV} {q : Nat} (k : Rn xs 201 0 [vR q, vU] [] h r h') : Sp xs 201 [vR q] h r h' := sp_of (Nat.le_of_ble_eq_true rfl) rfl k
theorem en_M_sideAt {xs : List Int} {h h' : MH} {r : Option MV} {z0 : Int} {z1 : Int} (k : Rn xs 202 0 [vI z0, vI z1] [] h r h') : Sp xs 202 [vI z0, vI z1] h r h' := sp_of (Nat.le_of_ble_eq_true rfl) rfl k
theorem en_M_isFit {xs : List Int} {h h' : MH} {r : Option MV} {q : Nat} {z0 : Int} (k : Rn xs 203 0 [vR q, vI z0, vU, vU] [] h r h') : Sp xs 203 [vR q, vI z0] h r h' := sp_of (Nat.le_of_ble_eq_true rfl) rfl k
theorem en_M_fits {xs : List Int} {h h' : MH} {r : Option MV} {q : Nat} {z0 : Int} (k : Rn xs 204 0 [vR q, vI z0, vU, vU] [] h r h') : Sp xs 204 [vR q, vI z0] h r h' := sp_of (Nat.le_of_ble_eq_true rfl) rfl k
theorem en_M_ask {xs : List Int} {h h' : MH} {r : Option MV} {q : Nat} {z0 : Int} (k : Rn xs 205 0 [vR q, vI z0, vU, vU, vU, vU, vU, vU, vU] [] h r h') : Sp xs 205 [vR q, vI z0] h r h' := sp_of (Nat.le_of_ble_eq_true rfl) rfl k
theorem en_M_year {xs : List Int} {h h' : MH} {r : Option MV} {q : Nat} {z0 : Int} {z1 : Int} {z2 : Int} (k : Rn xs 206 0 [vR q, vI z0, vI z1, vI z2, vU, vU, vU, vU] [] h r h') : Sp xs 206 [vR q, vI z0, vI z1, vI z2] h r h' := sp_of (Nat.le_of_ble_eq_true rfl) rfl k
theorem en_M_image {xs : List Int} {h h' : MH} {r : Option MV} {q : Nat} {z0 : Int} (k : Rn xs 207 0 [vR q, vI z0, vU, vU] [] h r h') : Sp xs 207 [vR q, vI z0] h r h' := sp_of (Nat.le_of_ble_eq_true rfl) rfl k
theorem en_M_restore {xs : List Int} {h h' : MH} {r : Option MV} {q : Nat} {z0 : Int} (k : Rn xs 208 0 [vR q, vI z0, vU, vU] [] h r h') : Sp xs 208 [vR q, vI z0] h r h' := sp_of (Nat.le_of_ble_eq_true rfl) rfl k
theorem en_M_told {xs : List Int} {h h' : MH} {r : Option MV} {q : Nat} {z0 : Int} (k : Rn xs 209 0 [vR q, vI z0, vU, vU] [] h r h') : Sp xs 209 [vR q, vI z0] h r h' := sp_of (Nat.le_of_ble_eq_true rfl) rfl k
theorem en_Integer_bitCount {xs : List Int} {h h' : MH} {r : Option MV} {z0 : Int} (k : Rn xs 210 0 [vI z0] [] h r h') : Sp xs 210 [vI z0] h r h' := sp_of (Nat.le_of_ble_eq_true rfl) rfl k
theorem en_Math_floorMod {xs : List Int} {h h' : MH} {r : Option MV} {z0 : Int} {z1 : Int} (k : Rn xs 211 0 [vI z0, vI z1, vU] [] h r h') : Sp xs 211 [vI z0, vI z1] h r h' := sp_of (Nat.le_of_ble_eq_true rfl) rfl k
theorem en_Math_abs {xs : List Int} {h h' : MH} {r : Option MV} {z0 : Int} (k : Rn xs 212 0 [vI z0] [] h r h') : Sp xs 212 [vI z0] h r h' := sp_of (Nat.le_of_ble_eq_true rfl) rfl k
theorem en_Math_max {xs : List Int} {h h' : MH} {r : Option MV} {z0 : Int} {z1 : Int} (k : Rn xs 213 0 [vI z0, vI z1] [] h r h') : Sp xs 213 [vI z0, vI z1] h r h' := sp_of (Nat.le_of_ble_eq_true rfl) rfl k
theorem en_Math_min {xs : List Int} {h h' : MH} {r : Option MV} {z0 : Int} {z1 : Int} (k : Rn xs 214 0 [vI z0, vI z1] [] h r h') : Sp xs 214 [vI z0, vI z1] h r h' := sp_of (Nat.le_of_ble_eq_true rfl) rfl k
theorem ck_Chances_part_Chances_commonDivisor : cok 0 1 0 2 = true := by decide +kernel
theorem ck_Chances_mixed_Chances_mixedInOrder : cok 2 3 0 6 = true := by decide +kernel
theorem ck_Chances_mixedInOrder_Math_min : cok 3 214 0 2 = true := by decide +kernel
theorem ck_Chances_mixedInOrder_Math_max : cok 3 213 0 2 = true := by decide +kernel
theorem ck_Chances_mixedInOrder_Chances_part : cok 3 0 0 3 = true := by decide +kernel
theorem ck_Chances_isTheFirst_Chances_power : cok 4 6 0 2 = true := by decide +kernel
theorem ck_Chances_isTheFirst_Chances_part : cok 4 0 0 3 = true := by decide +kernel
theorem ck_Chances_winsRace_Chances_power : cok 5 6 0 2 = true := by decide +kernel
theorem ck_Chances_winsRace_Chances_part : cok 5 0 0 3 = true := by decide +kernel
theorem ck_Defence_init_Table_init : cok 7 74 2 1 = true := by decide +kernel
theorem ck_Defence_place_Table_copyFrom : cok 10 75 1 2 = true := by decide +kernel
theorem ck_Defence_place_Table_ballRod : cok 10 87 1 1 = true := by decide +kernel
theorem ck_Defence_place_Rods_sideOf : cok 10 54 0 1 = true := by decide +kernel
theorem ck_Defence_place_Rods_keeperOf : cok 10 59 0 1 = true := by decide +kernel
theorem ck_Defence_place_Rods_backsOf : cok 10 60 0 1 = true := by decide +kernel
theorem ck_Defence_place_Defence_shotsPastOthers : cok 10 11 1 2 = true := by decide +kernel
theorem ck_Defence_place_Rods_lastSlide : cok 10 57 0 1 = true := by decide +kernel
theorem ck_Defence_place_Table_slideTo : cok 10 77 1 3 = true := by decide +kernel
theorem ck_Defence_place_Table_shotsPast : cok 10 99 1 2 = true := by decide +kernel
theorem ck_Defence_place_Defence_tryKeeper : cok 10 12 1 4 = true := by decide +kernel
theorem ck_Defence_shotsPastOthers_Table_shotsToGoal : cok 11 98 1 1 = true := by decide +kernel
theorem ck_Defence_shotsPastOthers_Rods_stepToGoalOf : cok 11 61 0 1 = true := by decide +kernel
theorem ck_Defence_shotsPastOthers_Table_ballRod : cok 11 87 1 1 = true := by decide +kernel
theorem ck_Defence_shotsPastOthers_Rods_keeperOf : cok 11 59 0 1 = true := by decide +kernel
theorem ck_Defence_shotsPastOthers_Rods_backsOf : cok 11 60 0 1 = true := by decide +kernel
theorem ck_Defence_shotsPastOthers_Rods_isOf : cok 11 58 0 2 = true := by decide +kernel
theorem ck_Defence_shotsPastOthers_Table_shotsPast : cok 11 99 1 2 = true := by decide +kernel
theorem ck_Defence_tryKeeper_Integer_bitCount : cok 12 210 0 1 = true := by decide +kernel
theorem ck_Evening_init_Table_init : cok 13 74 2 1 = true := by decide +kernel
theorem ck_Evening_play_Table_copyFrom : cok 19 75 1 2 = true := by decide +kernel
theorem ck_Evening_play_Pad_rewind : cok 19 32 1 1 = true := by decide +kernel
theorem ck_Evening_play_Pad_isReadOut : cok 19 33 1 1 = true := by decide +kernel
theorem ck_Evening_play_Pad_readAct : cok 19 38 1 1 = true := by decide +kernel
theorem ck_Evening_play_Pad_kind : cok 19 34 1 1 = true := by decide +kernel
theorem ck_Evening_play_Pad_rod : cok 19 35 1 1 = true := by decide +kernel
theorem ck_Evening_play_Pad_number : cok 19 36 1 1 = true := by decide +kernel
theorem ck_Evening_play_Table_whyNot : cok 19 101 1 4 = true := by decide +kernel
theorem ck_Evening_play_Table_scoredInAll : cok 19 80 1 1 = true := by decide +kernel
theorem ck_Evening_play_Table_perform : cok 19 105 1 4 = true := by decide +kernel
theorem ck_Grasps_fewest_Grasps_needed : cok 21 22 0 3 = true := by decide +kernel
theorem ck_Grasps_fewest_Integer_bitCount : cok 21 210 0 1 = true := by decide +kernel
theorem ck_Grasps_fewest_Grasps_latest : cok 21 23 0 4 = true := by decide +kernel
theorem ck_Grasps_latest_Grasps_nextNeed : cok 23 24 0 4 = true := by decide +kernel
theorem ck_Grasps_nextNeed_Grasps_needed : cok 24 22 0 3 = true := by decide +kernel
theorem ck_Image_init_Table_init : cok 25 74 2 1 = true := by decide +kernel
theorem ck_Image_init_Sights_init : cok 25 62 4 1 = true := by decide +kernel
theorem ck_Image_keep_Table_copyFrom : cok 26 75 1 2 = true := by decide +kernel
theorem ck_Image_keep_Sights_copyFrom : cok 26 66 1 2 = true := by decide +kernel
theorem ck_Image_giveBack_Table_copyFrom : cok 27 75 1 2 = true := by decide +kernel
theorem ck_Image_giveBack_Sights_copyFrom : cok 27 66 1 2 = true := by decide +kernel
theorem ck_Pad_faultPlace_Pad_rewind : cok 37 32 1 1 = true := by decide +kernel
theorem ck_Pad_faultPlace_Pad_isReadOut : cok 37 33 1 1 = true := by decide +kernel
theorem ck_Pad_faultPlace_Pad_readAct : cok 37 38 1 1 = true := by decide +kernel
theorem ck_Pad_readAct_Pad_takes : cok 38 41 1 3 = true := by decide +kernel
theorem ck_Pad_readAct_Pad_takesDigit : cok 38 43 1 3 = true := by decide +kernel
theorem ck_Pad_readAct_Pad_takesRod : cok 38 42 1 1 = true := by decide +kernel
theorem ck_Pad_readAct_Pad_takesWay : cok 38 40 1 1 = true := by decide +kernel
theorem ck_Pad_readAct_Pad_takesHandling : cok 38 39 1 1 = true := by decide +kernel
theorem ck_Pad_takesHandling_Pad_takes : cok 39 41 1 3 = true := by decide +kernel
theorem ck_Pad_takesHandling_Pad_takesDigit : cok 39 43 1 3 = true := by decide +kernel
theorem ck_Pad_takesWay_Pad_takes : cok 40 41 1 3 = true := by decide +kernel
theorem ck_Pad_takesWay_Pad_takesDigit : cok 40 43 1 3 = true := by decide +kernel
theorem ck_Pad_takes_Pad_nextSign : cok 41 44 1 1 = true := by decide +kernel
theorem ck_Pad_takesRod_Pad_nextSign : cok 42 44 1 1 = true := by decide +kernel
theorem ck_Pad_takesRod_Rods_isRod : cok 42 52 0 1 = true := by decide +kernel
theorem ck_Pad_takesDigit_Pad_nextSign : cok 43 44 1 1 = true := by decide +kernel
theorem ck_Pad_takesDigit_F_isWithin : cok 43 140 3 3 = true := by decide +kernel
theorem ck_Passes_countTo_Passes_leads : cok 47 48 1 4 = true := by decide +kernel
theorem ck_Passes_leads_Passes_receiver : cok 48 50 0 3 = true := by decide +kernel
theorem ck_Passes_leads_Passes_from : cok 48 46 1 2 = true := by decide +kernel
theorem ck_Passes_firstFrom_Passes_from : cok 49 46 1 2 = true := by decide +kernel
theorem ck_Passes_firstFrom_Passes_receiver : cok 49 50 0 3 = true := by decide +kernel
theorem ck_Passes_receiver_Rods_isMan : cok 50 53 0 2 = true := by decide +kernel
theorem ck_Passes_receiver_Table_overFrom : cok 50 95 1 4 = true := by decide +kernel
theorem ck_Passes_receiver_Passes_ownOnly : cok 50 51 0 2 = true := by decide +kernel
theorem ck_Passes_ownOnly_Rods_sideOf : cok 51 54 0 1 = true := by decide +kernel
theorem ck_Rods_isMan_Rods_menOf : cok 53 55 0 1 = true := by decide +kernel
theorem ck_Rods_lastSlide_Rods_menOf : cok 57 55 0 1 = true := by decide +kernel
theorem ck_Rods_lastSlide_Rods_gapOf : cok 57 56 0 1 = true := by decide +kernel
theorem ck_Rods_isOf_Rods_isRod : cok 58 52 0 1 = true := by decide +kernel
theorem ck_Rods_isOf_Rods_sideOf : cok 58 54 0 1 = true := by decide +kernel
theorem ck_Sights_copyFrom_F_copyRow : cok 66 144 3 2 = true := by decide +kernel
theorem ck_Sights_findRows_Sights_isRow : cok 67 71 0 1 = true := by decide +kernel
theorem ck_Sights_findRows_Sights_fitsAll : cok 67 72 1 2 = true := by decide +kernel
theorem ck_Sights_bestShot_Sights_mostLeft : cok 69 70 1 2 = true := by decide +kernel
theorem ck_Sights_mostLeft_Sights_sideBy : cok 70 73 0 2 = true := by decide +kernel
theorem ck_Sights_mostLeft_Math_max : cok 70 213 0 2 = true := by decide +kernel
theorem ck_Sights_fitsAll_Sights_sideBy : cok 72 73 0 2 = true := by decide +kernel
theorem ck_Table_init_Rods_lastSlide : cok 74 57 0 1 = true := by decide +kernel
theorem ck_Table_copyFrom_F_copyRow : cok 75 144 3 2 = true := by decide +kernel
theorem ck_Table_scoredInAll_Table_scoredBy : cok 80 78 1 2 = true := by decide +kernel
theorem ck_Table_isHeld_Rods_isRod : cok 82 52 0 1 = true := by decide +kernel
theorem ck_Table_heldBy_Rods_sideOf : cok 83 54 0 1 = true := by decide +kernel
theorem ck_Table_heldBy_Table_isHeld : cok 83 82 1 2 = true := by decide +kernel
theorem ck_Table_setHeld_Rods_isRod : cok 84 52 0 1 = true := by decide +kernel
theorem ck_Table_ballPlace_Table_isDead : cok 89 86 1 1 = true := by decide +kernel
theorem ck_Table_ballPlace_Table_placeOf : cok 89 92 1 3 = true := by decide +kernel
theorem ck_Table_placeOf_Table_slideOf : cok 92 76 1 2 = true := by decide +kernel
theorem ck_Table_placeOf_Rods_gapOf : cok 92 56 0 1 = true := by decide +kernel
theorem ck_Table_covererOf_Table_slideOf : cok 93 76 1 2 = true := by decide +kernel
theorem ck_Table_covererOf_Rods_gapOf : cok 93 56 0 1 = true := by decide +kernel
theorem ck_Table_covererOf_Rods_menOf : cok 93 55 0 1 = true := by decide +kernel
theorem ck_Table_covererOf_Math_abs : cok 93 212 0 1 = true := by decide +kernel
theorem ck_Table_nearestOf_Table_slideOf : cok 94 76 1 2 = true := by decide +kernel
theorem ck_Table_nearestOf_Rods_gapOf : cok 94 56 0 1 = true := by decide +kernel
theorem ck_Table_nearestOf_Rods_menOf : cok 94 55 0 1 = true := by decide +kernel
theorem ck_Table_nearestOf_Math_abs : cok 94 212 0 1 = true := by decide +kernel
theorem ck_Table_overFrom_Rods_sideOf : cok 95 54 0 1 = true := by decide +kernel
theorem ck_Table_overFrom_Rods_isOf : cok 95 58 0 2 = true := by decide +kernel
theorem ck_Table_overFrom_Table_placeOf : cok 95 92 1 3 = true := by decide +kernel
theorem ck_Table_overFrom_Table_nearestOf : cok 95 94 1 3 = true := by decide +kernel
theorem ck_Table_overFrom_Math_abs : cok 95 212 0 1 = true := by decide +kernel
theorem ck_Table_overFrom_Table_covererOf : cok 95 93 1 3 = true := by decide +kernel
theorem ck_Table_shotEnd_Table_isDead : cok 96 86 1 1 = true := by decide +kernel
theorem ck_Table_shotEnd_Rods_sideOf : cok 96 54 0 1 = true := by decide +kernel
theorem ck_Table_shotEnd_Table_placeOf : cok 96 92 1 3 = true := by decide +kernel
theorem ck_Table_shotEnd_Rods_stepToGoalOf : cok 96 61 0 1 = true := by decide +kernel
theorem ck_Table_shotEnd_Rods_isOf : cok 96 58 0 2 = true := by decide +kernel
theorem ck_Table_shotEnd_Table_bounced : cok 96 100 0 1 = true := by decide +kernel
theorem ck_Table_shotEnd_Table_covererOf : cok 96 93 1 3 = true := by decide +kernel
theorem ck_Table_shotEnd_Table_reachesGoal : cok 96 97 1 3 = true := by decide +kernel
theorem ck_Table_shotEnd_Rods_keeperOf : cok 96 59 0 1 = true := by decide +kernel
theorem ck_Table_reachesGoal_Rods_sideOf : cok 97 54 0 1 = true := by decide +kernel
theorem ck_Table_reachesGoal_Rods_keeperOf : cok 97 59 0 1 = true := by decide +kernel
theorem ck_Table_reachesGoal_Math_abs : cok 97 212 0 1 = true := by decide +kernel
theorem ck_Table_reachesGoal_Table_bounced : cok 97 100 0 1 = true := by decide +kernel
theorem ck_Table_shotsToGoal_Table_ballPlace : cok 98 89 1 1 = true := by decide +kernel
theorem ck_Table_shotsToGoal_Table_reachesGoal : cok 98 97 1 3 = true := by decide +kernel
theorem ck_Table_shotsToGoal_F_shotBit : cok 98 143 3 1 = true := by decide +kernel
theorem ck_Table_shotsPast_Table_ballPlace : cok 99 89 1 1 = true := by decide +kernel
theorem ck_Table_shotsPast_Math_abs : cok 99 212 0 1 = true := by decide +kernel
theorem ck_Table_shotsPast_Table_bounced : cok 99 100 0 1 = true := by decide +kernel
theorem ck_Table_shotsPast_Table_covererOf : cok 99 93 1 3 = true := by decide +kernel
theorem ck_Table_shotsPast_F_shotBit : cok 99 143 3 1 = true := by decide +kernel
theorem ck_Table_bounced_Math_floorMod : cok 100 211 0 2 = true := by decide +kernel
theorem ck_Table_whyNot_Table_scoredBy : cok 101 78 1 2 = true := by decide +kernel
theorem ck_Table_whyNot_Table_isPlayed : cok 101 102 0 1 = true := by decide +kernel
theorem ck_Table_whyNot_Table_isDead : cok 101 86 1 1 = true := by decide +kernel
theorem ck_Table_whyNot_Table_isHeldWrongly : cok 101 103 1 3 = true := by decide +kernel
theorem ck_Table_whyNot_Rods_sideOf : cok 101 54 0 1 = true := by decide +kernel
theorem ck_Table_whyNot_Table_heldBy : cok 101 83 1 2 = true := by decide +kernel
theorem ck_Table_whyNot_Table_slideOf : cok 101 76 1 2 = true := by decide +kernel
theorem ck_Table_whyNot_Rods_lastSlide : cok 101 57 0 1 = true := by decide +kernel
theorem ck_Table_whyNot_Rods_isMan : cok 101 53 0 2 = true := by decide +kernel
theorem ck_Table_whyNot_Table_isNextMan : cok 101 104 1 2 = true := by decide +kernel
theorem ck_Table_whyNot_Table_overFrom : cok 101 95 1 4 = true := by decide +kernel
theorem ck_Table_isHeldWrongly_Table_isHeld : cok 103 82 1 2 = true := by decide +kernel
theorem ck_Table_isHeldWrongly_Table_isPlayed : cok 103 102 0 1 = true := by decide +kernel
theorem ck_Table_isNextMan_Rods_isMan : cok 104 53 0 2 = true := by decide +kernel
theorem ck_Table_isNextMan_Math_abs : cok 104 212 0 1 = true := by decide +kernel
theorem ck_Table_perform_Table_setHeld : cok 105 84 1 3 = true := by decide +kernel
theorem ck_Table_perform_Table_slideOf : cok 105 76 1 2 = true := by decide +kernel
theorem ck_Table_perform_Table_slideTo : cok 105 77 1 3 = true := by decide +kernel
theorem ck_Table_perform_Table_giveBall : cok 105 91 1 2 = true := by decide +kernel
theorem ck_Table_perform_Table_overFrom : cok 105 95 1 4 = true := by decide +kernel
theorem ck_Table_perform_Table_shotEnd : cok 105 96 1 2 = true := by decide +kernel
theorem ck_Table_perform_Table_endShot : cok 105 106 1 2 = true := by decide +kernel
theorem ck_Table_endShot_Rods_sideOf : cok 106 54 0 1 = true := by decide +kernel
theorem ck_Table_endShot_Table_scoredBy : cok 106 78 1 2 = true := by decide +kernel
theorem ck_Table_endShot_Table_setScored : cok 106 79 1 3 = true := by decide +kernel
theorem ck_Table_endShot_Table_loseBall : cok 106 90 1 1 = true := by decide +kernel
theorem ck_Table_endShot_Table_giveBall : cok 106 91 1 2 = true := by decide +kernel
theorem ck_Table_tryDrawn_Table_isDead : cok 107 86 1 1 = true := by decide +kernel
theorem ck_Table_tryDrawn_Table_drawnNumber : cok 107 108 0 2 = true := by decide +kernel
theorem ck_Table_tryDrawn_Table_whyNot : cok 107 101 1 4 = true := by decide +kernel
theorem ck_Table_tryDrawn_Table_perform : cok 107 105 1 4 = true := by decide +kernel
theorem ck_F_init_Table_init : cok 109 74 2 1 = true := by decide +kernel
theorem ck_F_init_Pad_init : cok 109 28 4 1 = true := by decide +kernel
theorem ck_F_init_Evening_init : cok 109 13 4 1 = true := by decide +kernel
theorem ck_F_init_Passes_init : cok 109 45 4 1 = true := by decide +kernel
theorem ck_F_init_Defence_init : cok 109 7 4 1 = true := by decide +kernel
theorem ck_F_init_Sights_init : cok 109 62 4 1 = true := by decide +kernel
theorem ck_F_init_Image_init : cok 109 25 4 1 = true := by decide +kernel
theorem ck_F_slide_Rods_isRod : cok 110 52 0 1 = true := by decide +kernel
theorem ck_F_slide_Rods_lastSlide : cok 110 57 0 1 = true := by decide +kernel
theorem ck_F_slide_F_isWithin : cok 110 140 0 3 = true := by decide +kernel
theorem ck_F_slide_Table_slideOf : cok 110 76 1 2 = true := by decide +kernel
theorem ck_F_slide_Table_slideTo : cok 110 77 1 3 = true := by decide +kernel
theorem ck_F_hold_Rods_isRod : cok 111 52 0 1 = true := by decide +kernel
theorem ck_F_hold_Rods_sideOf : cok 111 54 0 1 = true := by decide +kernel
theorem ck_F_hold_Table_isHeld : cok 111 82 1 2 = true := by decide +kernel
theorem ck_F_hold_Table_heldBy : cok 111 83 1 2 = true := by decide +kernel
theorem ck_F_hold_Table_setHeld : cok 111 84 1 3 = true := by decide +kernel
theorem ck_F_ball_Table_loseBall : cok 112 90 1 1 = true := by decide +kernel
theorem ck_F_ball_Rods_isMan : cok 112 53 0 2 = true := by decide +kernel
theorem ck_F_ball_Table_giveBall : cok 112 91 1 2 = true := by decide +kernel
theorem ck_F_goals_F_isBit : cok 113 141 0 1 = true := by decide +kernel
theorem ck_F_goals_F_isWithin : cok 113 140 0 3 = true := by decide +kernel
theorem ck_F_goals_Table_scoredBy : cok 113 78 1 2 = true := by decide +kernel
theorem ck_F_goals_Table_setScored : cok 113 79 1 3 = true := by decide +kernel
theorem ck_F_say_F_isWithin : cok 114 140 0 3 = true := by decide +kernel
theorem ck_F_say_Pad_add : cok 114 30 1 2 = true := by decide +kernel
theorem ck_F_say_Pad_size : cok 114 29 1 1 = true := by decide +kernel
theorem ck_F_wipe_Pad_size : cok 115 29 1 1 = true := by decide +kernel
theorem ck_F_wipe_Pad_clear : cok 115 31 1 1 = true := by decide +kernel
theorem ck_F_fault_Pad_faultPlace : cok 116 37 1 1 = true := by decide +kernel
theorem ck_F_judge_F_isBit : cok 117 141 0 1 = true := by decide +kernel
theorem ck_F_judge_Pad_faultPlace : cok 117 37 1 1 = true := by decide +kernel
theorem ck_F_judge_Evening_play : cok 117 19 1 3 = true := by decide +kernel
theorem ck_F_judge_Evening_stoppedAt : cok 117 16 1 1 = true := by decide +kernel
theorem ck_F_judge_Evening_reason : cok 117 17 1 1 = true := by decide +kernel
theorem ck_F_done_F_playsThrough : cok 118 138 1 1 = true := by decide +kernel
theorem ck_F_done_Evening_table : cok 118 14 1 1 = true := by decide +kernel
theorem ck_F_done_Table_copyFrom : cok 118 75 1 2 = true := by decide +kernel
theorem ck_F_done_Pad_clear : cok 118 31 1 1 = true := by decide +kernel
theorem ck_F_done_Evening_acts : cok 118 15 1 1 = true := by decide +kernel
theorem ck_F_behind_Rods_isRod : cok 119 52 0 1 = true := by decide +kernel
theorem ck_F_behind_F_isBit : cok 119 141 0 1 = true := by decide +kernel
theorem ck_F_behind_F_playsThrough : cok 119 138 1 1 = true := by decide +kernel
theorem ck_F_behind_Evening_table : cok 119 14 1 1 = true := by decide +kernel
theorem ck_F_behind_Table_slideOf : cok 119 76 1 2 = true := by decide +kernel
theorem ck_F_behind_Table_isHeld : cok 119 82 1 2 = true := by decide +kernel
theorem ck_F_then_F_isWithin : cok 120 140 0 3 = true := by decide +kernel
theorem ck_F_then_F_playsThrough : cok 120 138 1 1 = true := by decide +kernel
theorem ck_F_then_Evening_table : cok 120 14 1 1 = true := by decide +kernel
theorem ck_F_then_Table_ballRod : cok 120 87 1 1 = true := by decide +kernel
theorem ck_F_then_Table_ballMan : cok 120 88 1 1 = true := by decide +kernel
theorem ck_F_then_Table_ballPlace : cok 120 89 1 1 = true := by decide +kernel
theorem ck_F_then_Table_scoredBy : cok 120 78 1 2 = true := by decide +kernel
theorem ck_F_then_Table_tenth : cok 120 85 1 1 = true := by decide +kernel
theorem ck_F_then_Evening_firstGoal : cok 120 18 1 1 = true := by decide +kernel
theorem ck_F_ends_F_isWithin : cok 121 140 0 3 = true := by decide +kernel
theorem ck_F_ends_Table_isDead : cok 121 86 1 1 = true := by decide +kernel
theorem ck_F_ends_Table_shotEnd : cok 121 96 1 2 = true := by decide +kernel
theorem ck_F_goesIn_Table_isDead : cok 122 86 1 1 = true := by decide +kernel
theorem ck_F_goesIn_Table_shotEnd : cok 122 96 1 2 = true := by decide +kernel
theorem ck_F_goesIn_F_shotBit : cok 122 143 0 1 = true := by decide +kernel
theorem ck_F_path_Rods_isMan : cok 123 53 0 2 = true := by decide +kernel
theorem ck_F_path_F_isBit : cok 123 141 0 1 = true := by decide +kernel
theorem ck_F_path_Table_isDead : cok 123 86 1 1 = true := by decide +kernel
theorem ck_F_path_Rods_sideOf : cok 123 54 0 1 = true := by decide +kernel
theorem ck_F_path_Table_ballRod : cok 123 87 1 1 = true := by decide +kernel
theorem ck_F_path_Passes_countTo : cok 123 47 1 3 = true := by decide +kernel
theorem ck_F_path_Table_ballMan : cok 123 88 1 1 = true := by decide +kernel
theorem ck_F_path_Passes_from : cok 123 46 1 2 = true := by decide +kernel
theorem ck_F_path_Passes_firstFrom : cok 123 49 1 3 = true := by decide +kernel
theorem ck_F_stand_F_isBit : cok 124 141 0 1 = true := by decide +kernel
theorem ck_F_stand_Table_isDead : cok 124 86 1 1 = true := by decide +kernel
theorem ck_F_stand_Defence_place : cok 124 10 1 2 = true := by decide +kernel
theorem ck_F_stand_Defence_letIn : cok 124 8 1 1 = true := by decide +kernel
theorem ck_F_stand_Defence_slides : cok 124 9 1 1 = true := by decide +kernel
theorem ck_F_mix_F_isTenths : cok 125 142 0 1 = true := by decide +kernel
theorem ck_F_mix_F_isBit : cok 125 141 0 1 = true := by decide +kernel
theorem ck_F_mix_Chances_mixed : cok 125 2 0 6 = true := by decide +kernel
theorem ck_F_hands_F_isWithin : cok 126 140 0 3 = true := by decide +kernel
theorem ck_F_hands_Grasps_isRow : cok 126 20 0 2 = true := by decide +kernel
theorem ck_F_hands_Grasps_fewest : cok 126 21 0 2 = true := by decide +kernel
theorem ck_F_truly_F_isTenths : cok 127 142 0 1 = true := by decide +kernel
theorem ck_F_truly_F_isBit : cok 127 141 0 1 = true := by decide +kernel
theorem ck_F_truly_F_isWithin : cok 127 140 0 3 = true := by decide +kernel
theorem ck_F_truly_Chances_isTheFirst : cok 127 4 0 5 = true := by decide +kernel
theorem ck_F_race_F_isWithin : cok 128 140 0 3 = true := by decide +kernel
theorem ck_F_race_F_isTenths : cok 128 142 0 1 = true := by decide +kernel
theorem ck_F_race_F_isBit : cok 128 141 0 1 = true := by decide +kernel
theorem ck_F_race_Chances_winsRace : cok 128 5 0 4 = true := by decide +kernel
theorem ck_F_seen_F_isWithin : cok 129 140 0 3 = true := by decide +kernel
theorem ck_F_seen_Sights_add : cok 129 64 1 3 = true := by decide +kernel
theorem ck_F_seen_Sights_size : cok 129 63 1 1 = true := by decide +kernel
theorem ck_F_forget_Sights_size : cok 130 63 1 1 = true := by decide +kernel
theorem ck_F_forget_Sights_clear : cok 130 65 1 1 = true := by decide +kernel
theorem ck_F_fits_Sights_findRows : cok 131 67 1 1 = true := by decide +kernel
theorem ck_F_fits_Sights_rowFound : cok 131 68 1 2 = true := by decide +kernel
theorem ck_F_ask_F_isBit : cok 132 141 0 1 = true := by decide +kernel
theorem ck_F_ask_Sights_findRows : cok 132 67 1 1 = true := by decide +kernel
theorem ck_F_ask_Sights_bestShot : cok 132 69 1 1 = true := by decide +kernel
theorem ck_F_ask_Sights_mostLeft : cok 132 70 1 2 = true := by decide +kernel
theorem ck_F_year_F_isWithin : cok 133 140 0 3 = true := by decide +kernel
theorem ck_F_year_Table_copyFrom : cok 133 75 1 2 = true := by decide +kernel
theorem ck_F_year_Table_tryDrawn : cok 133 107 1 2 = true := by decide +kernel
theorem ck_F_year_Table_scoredInAll : cok 133 80 1 1 = true := by decide +kernel
theorem ck_F_year_Table_tenth : cok 133 85 1 1 = true := by decide +kernel
theorem ck_F_year_Table_ballRod : cok 133 87 1 1 = true := by decide +kernel
theorem ck_F_image_F_isBit : cok 134 141 0 1 = true := by decide +kernel
theorem ck_F_image_F_imageOf : cok 134 139 1 2 = true := by decide +kernel
theorem ck_F_image_Image_keep : cok 134 26 1 3 = true := by decide +kernel
theorem ck_F_restore_F_isBit : cok 135 141 0 1 = true := by decide +kernel
theorem ck_F_restore_F_imageOf : cok 135 139 1 2 = true := by decide +kernel
theorem ck_F_restore_Image_giveBack : cok 135 27 1 3 = true := by decide +kernel
theorem ck_F_told_Pad_size : cok 136 29 1 1 = true := by decide +kernel
theorem ck_F_told_Table_heldRods : cok 136 81 1 1 = true := by decide +kernel
theorem ck_F_told_Table_ballRod : cok 136 87 1 1 = true := by decide +kernel
theorem ck_F_told_Table_ballMan : cok 136 88 1 1 = true := by decide +kernel
theorem ck_F_told_Table_tenth : cok 136 85 1 1 = true := by decide +kernel
theorem ck_F_told_Sights_size : cok 136 63 1 1 = true := by decide +kernel
theorem ck_F_told_F_toldByNumber : cok 136 137 1 2 = true := by decide +kernel
theorem ck_F_toldByNumber_F_isWithin : cok 137 140 0 3 = true := by decide +kernel
theorem ck_F_toldByNumber_Table_scoredBy : cok 137 78 1 2 = true := by decide +kernel
theorem ck_F_toldByNumber_Table_slideOf : cok 137 76 1 2 = true := by decide +kernel
theorem ck_F_toldByNumber_Rods_isMan : cok 137 53 0 2 = true := by decide +kernel
theorem ck_F_toldByNumber_Table_placeOf : cok 137 92 1 3 = true := by decide +kernel
theorem ck_F_playsThrough_Pad_faultPlace : cok 138 37 1 1 = true := by decide +kernel
theorem ck_F_playsThrough_Evening_play : cok 138 19 1 3 = true := by decide +kernel
theorem ck_F_playsThrough_Evening_stoppedAt : cok 138 16 1 1 = true := by decide +kernel
theorem ck_F_isTenths_F_isWithin : cok 142 140 0 3 = true := by decide +kernel
theorem ck_M_init_M_widest : cok 145 153 0 1 = true := by decide +kernel
theorem ck_M_isRod_M_in : cok 148 146 0 3 = true := by decide +kernel
theorem ck_M_kindOf_M_sideOf : cok 150 149 0 1 = true := by decide +kernel
theorem ck_M_menOf_M_kindOf : cok 151 150 0 1 = true := by decide +kernel
theorem ck_M_apartOf_M_kindOf : cok 152 150 0 1 = true := by decide +kernel
theorem ck_M_widest_M_menOf : cok 153 151 0 1 = true := by decide +kernel
theorem ck_M_widest_M_apartOf : cok 153 152 0 1 = true := by decide +kernel
theorem ck_M_isMan_M_isRod : cok 154 148 0 1 = true := by decide +kernel
theorem ck_M_isMan_M_menOf : cok 154 151 0 1 = true := by decide +kernel
theorem ck_M_isMan_M_in : cok 154 146 0 3 = true := by decide +kernel
theorem ck_M_held_M_sideOf : cok 155 149 0 1 = true := by decide +kernel
theorem ck_M_slide_M_isRod : cok 156 148 0 1 = true := by decide +kernel
theorem ck_M_slide_M_widest : cok 156 153 0 1 = true := by decide +kernel
theorem ck_M_slide_M_in : cok 156 146 0 3 = true := by decide +kernel
theorem ck_M_hold_M_isRod : cok 157 148 0 1 = true := by decide +kernel
theorem ck_M_hold_M_asNow : cok 157 169 1 1 = true := by decide +kernel
theorem ck_M_hold_M_sideOf : cok 157 149 0 1 = true := by decide +kernel
theorem ck_M_hold_M_held : cok 157 155 1 3 = true := by decide +kernel
theorem ck_M_ball_M_isMan : cok 158 154 0 2 = true := by decide +kernel
theorem ck_M_goals_M_in : cok 159 146 0 3 = true := by decide +kernel
theorem ck_M_say_M_in : cok 160 146 0 3 = true := by decide +kernel
theorem ck_M_step_M_in : cok 162 146 0 3 = true := by decide +kernel
theorem ck_M_faultOf_M_step : cok 163 162 0 2 = true := by decide +kernel
theorem ck_M_fault_M_faultOf : cok 164 163 1 1 = true := by decide +kernel
theorem ck_M_standsAt_M_apartOf : cok 165 152 0 1 = true := by decide +kernel
theorem ck_M_covers_M_menOf : cok 166 151 0 1 = true := by decide +kernel
theorem ck_M_covers_M_standsAt : cok 166 165 1 3 = true := by decide +kernel
theorem ck_M_covers_M_in : cok 166 146 0 3 = true := by decide +kernel
theorem ck_M_shotBy_M_sideOf : cok 167 149 0 1 = true := by decide +kernel
theorem ck_M_shotBy_M_standsAt : cok 167 165 1 3 = true := by decide +kernel
theorem ck_M_shotBy_M_isRod : cok 167 148 0 1 = true := by decide +kernel
theorem ck_M_shotBy_M_covers : cok 167 166 1 3 = true := by decide +kernel
theorem ck_M_shotBy_M_in : cok 167 146 0 3 = true := by decide +kernel
theorem ck_M_overBy_M_sideOf : cok 168 149 0 1 = true := by decide +kernel
theorem ck_M_overBy_M_standsAt : cok 168 165 1 3 = true := by decide +kernel
theorem ck_M_overBy_M_menOf : cok 168 151 0 1 = true := by decide +kernel
theorem ck_M_overBy_M_covers : cok 168 166 1 3 = true := by decide +kernel
theorem ck_M_grasp_M_isOver : cok 171 170 1 1 = true := by decide +kernel
theorem ck_M_grasp_M_sideOf : cok 171 149 0 1 = true := by decide +kernel
theorem ck_M_grasp_M_held : cok 171 155 1 3 = true := by decide +kernel
theorem ck_M_letGo_M_isOver : cok 172 170 1 1 = true := by decide +kernel
theorem ck_M_slideBy_M_isOver : cok 173 170 1 1 = true := by decide +kernel
theorem ck_M_slideBy_M_widest : cok 173 153 0 1 = true := by decide +kernel
theorem ck_M_slideBy_M_in : cok 173 146 0 3 = true := by decide +kernel
theorem ck_M_whyNot_M_isOver : cok 174 170 1 1 = true := by decide +kernel
theorem ck_M_passTo_M_whyNot : cok 175 174 1 1 = true := by decide +kernel
theorem ck_M_passTo_M_isMan : cok 175 154 0 2 = true := by decide +kernel
theorem ck_M_passOver_M_whyNot : cok 176 174 1 1 = true := by decide +kernel
theorem ck_M_passOver_M_overBy : cok 176 168 1 4 = true := by decide +kernel
theorem ck_M_shoot_M_whyNot : cok 177 174 1 1 = true := by decide +kernel
theorem ck_M_shoot_M_sideOf : cok 177 149 0 1 = true := by decide +kernel
theorem ck_M_shoot_M_shotBy : cok 177 167 1 2 = true := by decide +kernel
theorem ck_M_throwIn_M_isOver : cok 178 170 1 1 = true := by decide +kernel
theorem ck_M_throwIn_M_isMan : cok 178 154 0 2 = true := by decide +kernel
theorem ck_M_endTenth_M_isOver : cok 179 170 1 1 = true := by decide +kernel
theorem ck_M_rodAct_M_grasp : cok 180 171 1 2 = true := by decide +kernel
theorem ck_M_rodAct_M_letGo : cok 180 172 1 2 = true := by decide +kernel
theorem ck_M_rodAct_M_slideBy : cok 180 173 1 3 = true := by decide +kernel
theorem ck_M_nextAct_M_endTenth : cok 181 179 1 1 = true := by decide +kernel
theorem ck_M_nextAct_M_passTo : cok 181 175 1 2 = true := by decide +kernel
theorem ck_M_nextAct_M_passOver : cok 181 176 1 2 = true := by decide +kernel
theorem ck_M_nextAct_M_shoot : cok 181 177 1 2 = true := by decide +kernel
theorem ck_M_nextAct_M_throwIn : cok 181 178 1 3 = true := by decide +kernel
theorem ck_M_nextAct_M_rodAct : cok 181 180 1 2 = true := by decide +kernel
theorem ck_M_goEvenings_M_asNow : cok 182 169 1 1 = true := by decide +kernel
theorem ck_M_goEvenings_M_nextAct : cok 182 181 1 1 = true := by decide +kernel
theorem ck_M_judge_M_in : cok 183 146 0 3 = true := by decide +kernel
theorem ck_M_judge_M_faultOf : cok 183 163 1 1 = true := by decide +kernel
theorem ck_M_judge_M_goEvenings : cok 183 182 1 1 = true := by decide +kernel
theorem ck_M_barOfEvenings_M_faultOf : cok 184 163 1 1 = true := by decide +kernel
theorem ck_M_barOfEvenings_M_goEvenings : cok 184 182 1 1 = true := by decide +kernel
theorem ck_M_done_M_barOfEvenings : cok 185 184 1 1 = true := by decide +kernel
theorem ck_M_behind_M_isRod : cok 186 148 0 1 = true := by decide +kernel
theorem ck_M_behind_M_in : cok 186 146 0 3 = true := by decide +kernel
theorem ck_M_behind_M_barOfEvenings : cok 186 184 1 1 = true := by decide +kernel
theorem ck_M_then_M_in : cok 187 146 0 3 = true := by decide +kernel
theorem ck_M_then_M_barOfEvenings : cok 187 184 1 1 = true := by decide +kernel
theorem ck_M_then_M_standsAt : cok 187 165 1 3 = true := by decide +kernel
theorem ck_M_ends_M_in : cok 188 146 0 3 = true := by decide +kernel
theorem ck_M_ends_M_asNow : cok 188 169 1 1 = true := by decide +kernel
theorem ck_M_ends_M_shotBy : cok 188 167 1 2 = true := by decide +kernel
theorem ck_M_allIn_M_shotBy : cok 189 167 1 2 = true := by decide +kernel
theorem ck_M_goesIn_M_asNow : cok 190 169 1 1 = true := by decide +kernel
theorem ck_M_goesIn_M_allIn : cok 190 189 1 1 = true := by decide +kernel
theorem ck_M_passes_M_overBy : cok 191 168 1 4 = true := by decide +kernel
theorem ck_M_path_M_isMan : cok 192 154 0 2 = true := by decide +kernel
theorem ck_M_path_M_in : cok 192 146 0 3 = true := by decide +kernel
theorem ck_M_path_M_asNow : cok 192 169 1 1 = true := by decide +kernel
theorem ck_M_path_M_sideOf : cok 192 149 0 1 = true := by decide +kernel
theorem ck_M_path_M_passes : cok 192 191 1 5 = true := by decide +kernel
theorem ck_M_stand_M_in : cok 193 146 0 3 = true := by decide +kernel
theorem ck_M_stand_M_asNow : cok 193 169 1 1 = true := by decide +kernel
theorem ck_M_stand_M_sideOf : cok 193 149 0 1 = true := by decide +kernel
theorem ck_M_stand_M_allIn : cok 193 189 1 1 = true := by decide +kernel
theorem ck_M_stand_M_bits : cok 193 147 0 1 = true := by decide +kernel
theorem ck_M_mix_M_in : cok 195 146 0 3 = true := by decide +kernel
theorem ck_M_mix_M_lowest : cok 195 194 0 3 = true := by decide +kernel
theorem ck_M_hands_M_in : cok 196 146 0 3 = true := by decide +kernel
theorem ck_M_hands_M_bits : cok 196 147 0 1 = true := by decide +kernel
theorem ck_M_truly_M_in : cok 198 146 0 3 = true := by decide +kernel
theorem ck_M_truly_M_power : cok 198 197 0 2 = true := by decide +kernel
theorem ck_M_truly_M_lowest : cok 198 194 0 3 = true := by decide +kernel
theorem ck_M_race_M_in : cok 199 146 0 3 = true := by decide +kernel
theorem ck_M_race_M_power : cok 199 197 0 2 = true := by decide +kernel
theorem ck_M_race_M_lowest : cok 199 194 0 3 = true := by decide +kernel
theorem ck_M_seen_M_in : cok 200 146 0 3 = true := by decide +kernel
theorem ck_M_isFit_M_sideAt : cok 203 202 0 2 = true := by decide +kernel
theorem ck_M_fits_M_isFit : cok 204 203 1 2 = true := by decide +kernel
theorem ck_M_ask_M_in : cok 205 146 0 3 = true := by decide +kernel
theorem ck_M_ask_M_isFit : cok 205 203 1 2 = true := by decide +kernel
theorem ck_M_ask_M_sideAt : cok 205 202 0 2 = true := by decide +kernel
theorem ck_M_year_M_in : cok 206 146 0 3 = true := by decide +kernel
theorem ck_M_year_M_asNow : cok 206 169 1 1 = true := by decide +kernel
theorem ck_M_year_M_grasp : cok 206 171 1 2 = true := by decide +kernel
theorem ck_M_year_M_letGo : cok 206 172 1 2 = true := by decide +kernel
theorem ck_M_year_M_slideBy : cok 206 173 1 3 = true := by decide +kernel
theorem ck_M_year_M_passTo : cok 206 175 1 2 = true := by decide +kernel
theorem ck_M_year_M_passOver : cok 206 176 1 2 = true := by decide +kernel
theorem ck_M_year_M_shoot : cok 206 177 1 2 = true := by decide +kernel
theorem ck_M_year_M_throwIn : cok 206 178 1 3 = true := by decide +kernel
theorem ck_M_year_M_endTenth : cok 206 179 1 1 = true := by decide +kernel
theorem ck_M_image_M_in : cok 207 146 0 3 = true := by decide +kernel
theorem ck_M_restore_M_in : cok 208 146 0 3 = true := by decide +kernel
theorem ck_M_told_M_asNow : cok 209 169 1 1 = true := by decide +kernel
theorem ck_M_told_M_isMan : cok 209 154 0 2 = true := by decide +kernel
theorem ck_M_told_M_standsAt : cok 209 165 1 3 = true := by decide +kernel
theorem ck_M_told_M_isRod : cok 209 148 0 1 = true := by decide +kernel
theorem ck_M_told_M_in : cok 209 146 0 3 = true := by decide +kernel
theorem ck_Law_law_F_init : cok 215 109 2 1 = true := by decide +kernel
theorem ck_Law_law_M_init : cok 215 145 2 1 = true := by decide +kernel
theorem ck_Law_law_F_slide : cok 215 110 1 3 = true := by decide +kernel
theorem ck_Law_law_M_slide : cok 215 156 1 3 = true := by decide +kernel
theorem ck_Law_law_F_hold : cok 215 111 1 3 = true := by decide +kernel
theorem ck_Law_law_M_hold : cok 215 157 1 3 = true := by decide +kernel
theorem ck_Law_law_F_ball : cok 215 112 1 3 = true := by decide +kernel
theorem ck_Law_law_M_ball : cok 215 158 1 3 = true := by decide +kernel
theorem ck_Law_law_F_goals : cok 215 113 1 3 = true := by decide +kernel
theorem ck_Law_law_M_goals : cok 215 159 1 3 = true := by decide +kernel
theorem ck_Law_law_F_say : cok 215 114 1 2 = true := by decide +kernel
theorem ck_Law_law_M_say : cok 215 160 1 2 = true := by decide +kernel
theorem ck_Law_law_F_wipe : cok 215 115 1 1 = true := by decide +kernel
theorem ck_Law_law_M_wipe : cok 215 161 1 1 = true := by decide +kernel
theorem ck_Law_law_F_fault : cok 215 116 1 1 = true := by decide +kernel
theorem ck_Law_law_M_fault : cok 215 164 1 1 = true := by decide +kernel
theorem ck_Law_law_F_judge : cok 215 117 1 2 = true := by decide +kernel
theorem ck_Law_law_M_judge : cok 215 183 1 2 = true := by decide +kernel
theorem ck_Law_law_F_done : cok 215 118 1 1 = true := by decide +kernel
theorem ck_Law_law_M_done : cok 215 185 1 1 = true := by decide +kernel
theorem ck_Law_law_F_behind : cok 215 119 1 3 = true := by decide +kernel
theorem ck_Law_law_M_behind : cok 215 186 1 3 = true := by decide +kernel
theorem ck_Law_law_F_then : cok 215 120 1 2 = true := by decide +kernel
theorem ck_Law_law_M_then : cok 215 187 1 2 = true := by decide +kernel
theorem ck_Law_law_F_ends : cok 215 121 1 2 = true := by decide +kernel
theorem ck_Law_law_M_ends : cok 215 188 1 2 = true := by decide +kernel
theorem ck_Law_law_F_goesIn : cok 215 122 1 1 = true := by decide +kernel
theorem ck_Law_law_M_goesIn : cok 215 190 1 1 = true := by decide +kernel
theorem ck_Law_law_F_path : cok 215 123 1 4 = true := by decide +kernel
theorem ck_Law_law_M_path : cok 215 192 1 4 = true := by decide +kernel
theorem ck_Law_law_F_stand : cok 215 124 1 2 = true := by decide +kernel
theorem ck_Law_law_M_stand : cok 215 193 1 2 = true := by decide +kernel
theorem ck_Law_law_F_mix : cok 215 125 1 7 = true := by decide +kernel
theorem ck_Law_law_M_mix : cok 215 195 1 7 = true := by decide +kernel
theorem ck_Law_law_F_hands : cok 215 126 1 3 = true := by decide +kernel
theorem ck_Law_law_M_hands : cok 215 196 1 3 = true := by decide +kernel
theorem ck_Law_law_F_truly : cok 215 127 1 6 = true := by decide +kernel
theorem ck_Law_law_M_truly : cok 215 198 1 6 = true := by decide +kernel
theorem ck_Law_law_F_race : cok 215 128 1 5 = true := by decide +kernel
theorem ck_Law_law_M_race : cok 215 199 1 5 = true := by decide +kernel
theorem ck_Law_law_F_seen : cok 215 129 1 3 = true := by decide +kernel
theorem ck_Law_law_M_seen : cok 215 200 1 3 = true := by decide +kernel
theorem ck_Law_law_F_forget : cok 215 130 1 1 = true := by decide +kernel
theorem ck_Law_law_M_forget : cok 215 201 1 1 = true := by decide +kernel
theorem ck_Law_law_F_fits : cok 215 131 1 2 = true := by decide +kernel
theorem ck_Law_law_M_fits : cok 215 204 1 2 = true := by decide +kernel
theorem ck_Law_law_F_ask : cok 215 132 1 2 = true := by decide +kernel
theorem ck_Law_law_M_ask : cok 215 205 1 2 = true := by decide +kernel
theorem ck_Law_law_F_year : cok 215 133 1 4 = true := by decide +kernel
theorem ck_Law_law_M_year : cok 215 206 1 4 = true := by decide +kernel
theorem ck_Law_law_F_image : cok 215 134 1 2 = true := by decide +kernel
theorem ck_Law_law_M_image : cok 215 207 1 2 = true := by decide +kernel
theorem ck_Law_law_F_restore : cok 215 135 1 2 = true := by decide +kernel
theorem ck_Law_law_M_restore : cok 215 208 1 2 = true := by decide +kernel
theorem ck_Law_law_F_told : cok 215 136 1 2 = true := by decide +kernel
theorem ck_Law_law_M_told : cok 215 209 1 2 = true := by decide +kernel
