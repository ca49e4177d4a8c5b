-- the small machine: whole numbers in place of int and long, places in a list in place of addresses
abbrev MV : Type := Int ⊕ (Int ⊕ (Nat ⊕ (Nat ⊕ Bool)))
abbrev vI (z : Int) : MV := .inl z
abbrev vL (z : Int) : MV := .inr (.inl z)
abbrev vR (k : Nat) : MV := .inr (.inr (.inl k))
abbrev vS (k : Nat) : MV := .inr (.inr (.inr (.inl k)))
abbrev vN : MV := .inr (.inr (.inr (.inr true)))
abbrev vU : MV := .inr (.inr (.inr (.inr false)))
abbrev HC : Type := (Nat × List MV) ⊕ (Nat × List Int)
abbrev MH : Type := List HC
abbrev inR (z : Int) : Prop := -2147483648 ≤ z ∧ z ≤ 2147483647
abbrev inL (z : Int) : Prop := -9223372036854775808 ≤ z ∧ z ≤ 9223372036854775807
abbrev SR : Type := Option (Nat × List MV × List MV × MH)
def mcat : MV → Nat
  | .inr (.inl _) => 2
  | _ => 1
def csum (st : List MV) : Nat := (st.map mcat).sum
def mClean (ls : List MV) (k : Nat) : List MV := match k with
  | 0 => ls
  | j + 1 => match ls[j]? with
    | some (.inr (.inl _)) => ls.set j vU
    | _ => ls
def mSt1 (ls : List MV) (k : Nat) (v : MV) : List MV := (mClean ls k).set k v
def mSt2 (ls : List MV) (k : Nat) (v : MV) : List MV := ((mClean ls k).set (k + 1) vU).set k v
def SA (xs : List Int) : Nat → List Int
  | 0 => [0, 0, 1, 0, 1, 0, 1, 1]
  | 1 => [1, 2, 3, 5, 5, 3, 2, 1]
  | 2 => [0, 16, 12, 8, 8, 12, 16, 0]
  | 3 => xs
  | _ => []
def miOf (m : Nat) : MIt := (MI[m]?).getD (0, ⟨"", "", ""⟩, code, 0, none, 0)
def clsM (m : Nat) : Nat := (miOf m).1
def yM (m : Nat) : MethodName := (miOf m).2.1
def byM (m : Nat) : ByteArray := (miOf m).2.2.1
def mxM (m : Nat) : Nat := (miOf m).2.2.2.1
def retM (m : Nat) : Option FieldType := (miOf m).2.2.2.2.1
def npM (m : Nat) : Nat := (miOf m).2.2.2.2.2
def FDp (m : Nat) : Nat := (FDl[m]?).getD 0
def LDp (m : Nat) : Nat := (LDl[m]?).getD 0
def tyC : Nat → Nat → FieldType
  | 0 => tyX1 | 1 => tyX2 | 2 => tyX4 | 3 => tyX5 | 4 => tyX6 | 5 => tyX8 | 6 => tyX9 | 7 => tyX10 | 8 => tyX11
  | _ => fun _ => .int
def nfC (a : Nat) : Nat := ((CL[a]?).getD ("", TX1, 0)).2.2
def dfT : FieldType → MV
  | .int => vI 0
  | .boolean => vI 0
  | .long => vL 0
  | _ => vN
def dfC (a : Nat) : List MV := (List.range (nfC a)).map fun k => dfT (tyC a k)
def bAnd (x y : Int) : Int := ((Int32.ofInt x) &&& (Int32.ofInt y)).toInt
def bOr (x y : Int) : Int := ((Int32.ofInt x) ||| (Int32.ofInt y)).toInt
def bXor (x y : Int) : Int := ((Int32.ofInt x) ^^^ (Int32.ofInt y)).toInt
def bShl (x y : Int) : Int := ((Int32.ofInt x) <<< ((Int32.ofInt y) &&& 31)).toInt
def bShr (x y : Int) : Int := ((Int32.ofInt x) >>> ((Int32.ofInt y) &&& 31)).toInt
def bUsh (x y : Int) : Int := (((Int32.ofInt x).toUInt32 >>> ((Int32.ofInt y).toUInt32 &&& Int32.toUInt32 31)).toInt32).toInt
def lcm (x y : Int) : Int := if y < x then 1 else if x = y then 0 else -1
def s1 {α : Type} (st : List MV) (f : Int → List MV → Option α) : Option α := match st with
  | .inl x :: r => f x r
  | _ => none
def s2 {α : Type} (st : List MV) (f : Int → Int → List MV → Option α) : Option α := match st with
  | .inl y :: .inl x :: r => f x y r
  | _ => none
def l1 {α : Type} (st : List MV) (f : Int → List MV → Option α) : Option α := match st with
  | .inr (.inl x) :: r => f x r
  | _ => none
def l2 {α : Type} (st : List MV) (f : Int → Int → List MV → Option α) : Option α := match st with
  | .inr (.inl y) :: .inr (.inl x) :: r => f x y r
  | _ => none
def ldI (np : Nat) (ls st : List MV) (h : MH) (k : Nat) : SR := match ls[k]? with
  | some (.inl x) => some (np, ls, vI x :: st, h)
  | _ => none
def ldL (np : Nat) (ls st : List MV) (h : MH) (k : Nat) : SR := match ls[k]? with
  | some (.inr (.inl x)) => some (np, ls, vL x :: st, h)
  | _ => none
def ldA (np : Nat) (ls st : List MV) (h : MH) (k : Nat) : SR := match ls[k]? with
  | some (.inr (.inr (.inl x))) => some (np, ls, vR x :: st, h)
  | some (.inr (.inr (.inr (.inl x)))) => some (np, ls, vS x :: st, h)
  | _ => none
def stI (np : Nat) (ls st : List MV) (h : MH) (k : Nat) : SR := match st with
  | .inl x :: r => if k < ls.length then some (np, mSt1 ls k (vI x), r, h) else none
  | _ => none
def stL (np : Nat) (ls st : List MV) (h : MH) (k : Nat) : SR := match st with
  | .inr (.inl x) :: r => if k + 1 < ls.length then some (np, mSt2 ls k (vL x), r, h) else none
  | _ => none
def stA (np : Nat) (ls st : List MV) (h : MH) (k : Nat) : SR := match st with
  | .inr (.inr (.inl x)) :: r => if k < ls.length then some (np, mSt1 ls k (vR x), r, h) else none
  | _ => none
def cmpZ : Jvm.ClassFile.Cond → Int → Int → Bool
  | .eq, x, y => decide (x = y)
  | .ne, x, y => !decide (x = y)
  | .lt, x, y => decide (x < y)
  | .ge, x, y => !decide (x < y)
  | .gt, x, y => !decide (x ≤ y)
  | .le, x, y => decide (x ≤ y)
def fkind (c : Int) : MV → Bool
  | .inl z => c == 0 || (c == 1 && (z == 0 || z == 1))
  | .inr (.inr (.inl _)) => c == 2
  | _ => false
def swT (d lo hi : Int) (offs : List Int) (x : Int) : Option Int := if x < lo ∨ hi < x then some d else offs[(x - lo).toNat]?
def jump (pc : Nat) (off : Option Int) (ls st : List MV) (h : MH) : SR := match off with
  | some o => if 0 ≤ (pc : Int) + o then some (((pc : Int) + o).toNat, ls, st, h) else none
  | none => none
def aGet (xs : List Int) (kd : Nat) (h : MH) (st : List MV) (f : Int → List MV → SR) : SR := match st with
  | .inl j :: .inr (.inr (.inl q)) :: r => match h[q]? with
    | some (.inr (k, l)) => if k = kd ∧ 0 ≤ j ∧ j < l.length ∧ j ≤ 2147483647 then f (l.getD j.toNat 0) r else none
    | _ => none
  | .inl j :: .inr (.inr (.inr (.inl s))) :: r => if kd = 0 ∧ s < 4 ∧ 0 ≤ j ∧ j < (SA xs s).length ∧ j ≤ 2147483647 then f ((SA xs s).getD j.toNat 0) r else none
  | _ => none
def aPut (kd : Nat) (h : MH) (q : Nat) (j x : Int) (np : Nat) (ls r : List MV) : SR := match h[q]? with
  | some (.inr (k, l)) => if k = kd ∧ 0 ≤ j ∧ j < l.length ∧ j ≤ 2147483647 then some (np, ls, r, h.set q (.inr (k, l.set j.toNat x))) else none
  | _ => none
def sstep (xs : List Int) (pc : Nat) (e : EN) (ls st : List MV) (h : MH) : SR := match e with
  | (I, np, a, b, c) => match I with
    | .iconst n => some (np, ls, vI n :: st, h)
    | .bipush n => some (np, ls, vI n :: st, h)
    | .sipush n => some (np, ls, vI n :: st, h)
    | .ldc _ => some (np, ls, vI c :: st, h)
    | .ldc_w _ => some (np, ls, vI c :: st, h)
    | .ldc2_w _ => some (np, ls, vL c :: st, h)
    | .lconst n => some (np, ls, vL (n.val : Int) :: st, h)
    | .iload k => ldI np ls st h k
    | .iload_n k => ldI np ls st h k.val
    | .lload k => ldL np ls st h k
    | .lload_n k => ldL np ls st h k.val
    | .aload k => ldA np ls st h k
    | .aload_n k => ldA np ls st h k.val
    | .istore k => stI np ls st h k
    | .istore_n k => stI np ls st h k.val
    | .lstore k => stL np ls st h k
    | .lstore_n k => stL np ls st h k.val
    | .astore k => stA np ls st h k
    | .astore_n k => stA np ls st h k.val
    | .iinc k n => match ls[k]? with
      | some (.inl x) => some (np, mSt1 ls k (vI (x + n)), st, h)
      | _ => none
    | .iadd => s2 st fun x y r => some (np, ls, vI (x + y) :: r, h)
    | .isub => s2 st fun x y r => some (np, ls, vI (x - y) :: r, h)
    | .imul => s2 st fun x y r => some (np, ls, vI (x * y) :: r, h)
    | .idiv => s2 st fun x y r => if inR x ∧ inR y ∧ y ≠ 0 then some (np, ls, vI (x.tdiv y) :: r, h) else none
    | .irem => s2 st fun x y r => if inR x ∧ inR y ∧ y ≠ 0 then some (np, ls, vI (x.tmod y) :: r, h) else none
    | .ineg => s1 st fun x r => some (np, ls, vI (-x) :: r, h)
    | .iand => s2 st fun x y r => some (np, ls, vI (bAnd x y) :: r, h)
    | .ior => s2 st fun x y r => some (np, ls, vI (bOr x y) :: r, h)
    | .ixor => s2 st fun x y r => some (np, ls, vI (bXor x y) :: r, h)
    | .ishl => s2 st fun x y r => some (np, ls, vI (bShl x y) :: r, h)
    | .ishr => s2 st fun x y r => some (np, ls, vI (bShr x y) :: r, h)
    | .iushr => s2 st fun x y r => some (np, ls, vI (bUsh x y) :: r, h)
    | .i2l => s1 st fun x r => if inR x then some (np, ls, vL x :: r, h) else none
    | .ladd => l2 st fun x y r => some (np, ls, vL (x + y) :: r, h)
    | .lsub => l2 st fun x y r => some (np, ls, vL (x - y) :: r, h)
    | .lmul => l2 st fun x y r => some (np, ls, vL (x * y) :: r, h)
    | .ldiv => l2 st fun x y r => if inL x ∧ inL y ∧ y ≠ 0 then some (np, ls, vL (x.tdiv y) :: r, h) else none
    | .lrem => l2 st fun x y r => if inL x ∧ inL y ∧ y ≠ 0 then some (np, ls, vL (x.tmod y) :: r, h) else none
    | .lneg => l1 st fun x r => some (np, ls, vL (-x) :: r, h)
    | .lcmp => l2 st fun x y r => if inL x ∧ inL y then some (np, ls, vI (lcm x y) :: r, h) else none
    | .dup => match st with
      | v :: r => if mcat v = 1 then some (np, ls, v :: v :: r, h) else none
      | _ => none
    | .dup2 => match st with
      | v :: w :: r => if mcat v = 1 ∧ mcat w = 1 then some (np, ls, v :: w :: v :: w :: r, h) else none
      | _ => none
    | .goto _ => some (a, ls, st, h)
    | .ifCond o _ => s1 st fun x r => if inR x then some (if cmpZ o x 0 then a else np, ls, r, h) else none
    | .if_icmp o _ => s2 st fun x y r => if inR x ∧ inR y then some (if cmpZ o x y then a else np, ls, r, h) else none
    | .ifnull _ => match st with
      | .inr (.inr (.inl _)) :: r => some (np, ls, r, h)
      | _ => none
    | .ifnonnull _ => match st with
      | .inr (.inr (.inl _)) :: r => some (a, ls, r, h)
      | _ => none
    | .tableswitch d lo hi offs => s1 st fun x r => if inR x then jump pc (swT d lo hi offs.toList x) ls r h else none
    | .lookupswitch d ps => s1 st fun x r => if inR x ∧ (ps.toList.zip (ps.toList.drop 1)).all (fun q => q.1.1 < q.2.1) = true then jump pc (some (Op.lookupswitch.offset ps.toList d x)) ls r h else none
    | .getfield _ => match st with
      | .inr (.inr (.inl q)) :: r => match h[q]? with
        | some (.inl (ci, fs)) => if ci = a then (match fs[b]? with
          | some v => some (np, ls, v :: r, h)
          | none => none) else none
        | _ => none
      | _ => none
    | .putfield _ => match st with
      | v :: .inr (.inr (.inl q)) :: r => match h[q]? with
        | some (.inl (ci, fs)) => if ci = a ∧ b < fs.length ∧ fkind c v = true then some (np, ls, r, h.set q (.inl (ci, fs.set b v))) else none
        | _ => none
      | _ => none
    | .getstatic _ => some (np, ls, vS a :: st, h)
    | .iaload => aGet xs 0 h st fun z r => some (np, ls, vI z :: r, h)
    | .laload => aGet xs 1 h st fun z r => some (np, ls, vL z :: r, h)
    | .baload => aGet xs 2 h st fun z r => some (np, ls, vI z :: r, h)
    | .iastore => match st with
      | .inl x :: .inl j :: .inr (.inr (.inl q)) :: r => aPut 0 h q j x np ls r
      | _ => none
    | .lastore => match st with
      | .inr (.inl x) :: .inl j :: .inr (.inr (.inl q)) :: r => aPut 1 h q j x np ls r
      | _ => none
    | .bastore => match st with
      | .inl x :: .inl j :: .inr (.inr (.inl q)) :: r => if x = 0 ∨ x = 1 then aPut 2 h q j x np ls r else none
      | _ => none
    | .arraylength => match st with
      | .inr (.inr (.inl q)) :: r => match h[q]? with
        | some (.inr (_, l)) => some (np, ls, vI (l.length : Int) :: r, h)
        | _ => none
      | .inr (.inr (.inr (.inl s))) :: r => if s < 4 then some (np, ls, vI ((SA xs s).length : Int) :: r, h) else none
      | _ => none
    | .newarray t => s1 st fun n r => if 0 ≤ n ∧ n ≤ 1000000 then (match t with
      | .int => some (np, ls, vR h.length :: r, h ++ [.inr (0, List.replicate n.toNat 0)])
      | .long => some (np, ls, vR h.length :: r, h ++ [.inr (1, List.replicate n.toNat 0)])
      | .boolean => some (np, ls, vR h.length :: r, h ++ [.inr (2, List.replicate n.toNat 0)])
      | _ => none) else none
    | .new _ => some (np, ls, vR h.length :: st, h ++ [.inl (a, dfC a)])
    | _ => none
def mret (m : Nat) (I : Instr) (st : List MV) : Option (Option MV) := match I with
  | .ireturn => match st with
    | [.inl z] => if retM m = some .int ∨ (retM m = some .boolean ∧ (z = 0 ∨ z = 1)) then some (some (vI z)) else none
    | _ => none
  | .lreturn => match st with
    | [.inr (.inl z)] => if retM m = some .long then some (some (vL z)) else none
    | _ => none
  | .areturn => match st with
    | [.inr (.inr (.inl q))] => match retM m with
      | some (.object _) => some (some (vR q))
      | _ => none
    | _ => none
  | .return_ => match st with
    | [] => if retM m = none then some none else none
    | _ => none
  | _ => none
def kindI : Instr → Nat
  | .ireturn => 1
  | .lreturn => 1
  | .areturn => 1
  | .return_ => 1
  | .invokestatic _ => 2
  | .invokevirtual _ => 2
  | .invokespecial _ => 2
  | _ => 0
def recvOK (b a : Nat) (as : List MV) (h : MH) : Bool := b == 0 || b == 3 || (match as with
  | .inr (.inr (.inl q)) :: _ => (match h[q]? with
    | some (.inl (ci, _)) => ci == clsM a
    | _ => false)
  | _ => false)
def naC (b a : Nat) : Nat := npM a + (if b = 0 ∨ b = 3 then 0 else 1)
def pushR (r : Option MV) (st : List MV) : List MV := match r with
  | some v => v :: st
  | none => st
def mcall (F : Nat) (call : Nat → Nat → List MV → MH → Option (Option MV × MH)) (Lr : Nat) (e : EN) (st : List MV) (h : MH) : Option (List MV × MH) := match e with
  | (_, _, a, b, _) =>
    if b = 5 then (match st with
      | .inr (.inr (.inl _)) :: r => if 1 ≤ F ∧ 20 ≤ Lr ∧ csum r ≤ 8 then some (r, h) else none
      | _ => none)
    else if naC b a ≤ st.length ∧ csum (st.drop (naC b a)) ≤ 8 ∧ 19 + mxM a ≤ Lr ∧ recvOK b a (st.take (naC b a)).reverse h = true then
      (match call (Lr - (19 + mxM a)) a (st.take (naC b a)).reverse h with
      | some (r, h') => some (pushR r (st.drop (naC b a)), h')
      | none => none)
    else none
def goN (xs : List Int) (F : Nat) (call : Nat → Nat → List MV → MH → Option (Option MV × MH)) : Nat → Nat → Nat → Nat → List MV → List MV → MH → Option (Option MV × MH)
  | 0, _, _, _, _, _, _ => none
  | n + 1, Lr, m, pc, ls, st, h => match code_ m pc with
    | none => none
    | some e => if kindI e.1 = 1 then (match mret m e.1 st with
        | some r => some (r, h)
        | none => none)
      else if kindI e.1 = 2 then (match mcall F call Lr e st h with
        | some (st', h') => goN xs F call n Lr m e.2.1 ls st' h'
        | none => none)
      else (match sstep xs pc e ls st h with
        | some (pc', ls', st', h') => goN xs F call n Lr m pc' ls' st' h'
        | none => none)
def lay : List MV → List MV
  | [] => []
  | .inr (.inl z) :: vs => vL z :: vU :: lay vs
  | v :: vs => v :: lay vs
def ini (m : Nat) (as : List MV) : List MV := lay as ++ List.replicate (mxM m - (lay as).length) vU
def exec (xs : List Int) : Nat → Nat → Nat → Nat → List MV → MH → Option (Option MV × MH)
  | 0, _, _, _, _, _ => none
  | F + 1, n, Lr, m, as, h => if (lay as).length ≤ mxM m then goN xs F (exec xs F n) n Lr m 0 (ini m as) [] h else none
