-- hands: the tables of sets
section C78
-- hands: sets of rods below 16
def pc4 (s : Nat) : Nat := s % 2 + s / 2 % 2 + s / 4 % 2 + s / 8 % 2
def bt (s r : Nat) : Nat := s / 2 ^ r % 2
def adm (s k r : Nat) : Bool := and (Nat.beq (k &&& s) k) (Nat.ble (pc4 (k ||| 2 ^ r)) 2)
def mis (s r : Nat) : Nat := 1 - bt s r
def cls (d W s : Nat) : Nat := cond (Nat.beq d 4) (cond (Nat.beq s 0) 0 5) (cond (and (Nat.beq (bt s d) 1) (Nat.ble (pc4 s) 2)) (cond (Nat.beq ((s - 2 ^ d) &&& W) (s - 2 ^ d)) 0 1) 5)
def stM (d W r : Nat) : Nat := cond (or (Nat.beq r d) (Nat.beq (bt W r) 1)) 0 1
def stW (d W r : Nat) : Nat := cond (Nat.beq r d) W (cond (Nat.beq d 4) 0 (cond (Nat.beq (bt W r) 1) (2 ^ d) (W ||| 2 ^ d)))
def vB (d W : Nat) : Bool := and (or (Nat.blt d 4) (Nat.beq W 0)) (Nat.beq (bt W d) 0)
def kLow (d W r s k : Nat) : Bool := or (not (adm s k r)) (or (not (vB d W)) (Nat.ble (stM d W r + cls r (stW d W r) (k ||| 2 ^ r)) (cls d W s + mis s r)))
def kLowA (d : Nat) : Bool := (List.range 16).all (fun W : Nat => (List.range 4).all (fun r : Nat => (List.range 16).all (fun s : Nat => (List.range 16).all (fun k : Nat => kLow d W r s k))))
theorem kLow_0 : kLowA 0 = true := by decide +kernel
theorem kLow_1 : kLowA 1 = true := by decide +kernel
theorem kLow_2 : kLowA 2 = true := by decide +kernel
theorem kLow_3 : kLowA 3 = true := by decide +kernel
theorem kLow_4 : kLowA 4 = true := by decide +kernel
theorem all_r {n : Nat} {f : Nat → Bool} (h : (List.range n).all f = true) {i : Nat} (hi : i < n) : f i = true := List.all_eq_true.mp h i (List.mem_range.mpr hi)
theorem kLow_k {d W r s k : Nat} (hd : d < 5) (hW : W < 16) (hr : r < 4) (hs : s < 16) (hk : k < 16) : kLow d W r s k = true := by
  have e : kLowA d = true := by
    have : d = 0 ∨ d = 1 ∨ d = 2 ∨ d = 3 ∨ d = 4 := by omega
    rcases this with rfl | rfl | rfl | rfl | rfl
    · exact kLow_0
    · exact kLow_1
    · exact kLow_2
    · exact kLow_3
    · exact kLow_4
  unfold kLowA at e
  exact all_r (all_r (all_r (all_r e hW) hr) hs) hk
def kUp (d W r T : Nat) : Bool := or (not (vB d W)) (or (not (Nat.beq (cls r (stW d W r) T) 0)) ((List.range 16).any (fun s : Nat => and (and (Nat.beq (cls d W s) 0) (Nat.beq (mis s r) (stM d W r))) ((List.range 16).any (fun k : Nat => and (adm s k r) (Nat.beq (k ||| 2 ^ r) T))))))
def kUpA : Bool := (List.range 5).all (fun d : Nat => (List.range 16).all (fun W : Nat => (List.range 4).all (fun r : Nat => (List.range 16).all (fun T : Nat => kUp d W r T))))
theorem kUp_A : kUpA = true := by decide +kernel
def kVA : Bool := (List.range 5).all (fun d : Nat => (List.range 16).all (fun W : Nat => (List.range 4).all (fun r : Nat => or (not (vB d W)) (and (vB r (stW d W r)) (Nat.blt (stW d W r) 16)))))
theorem kV_A : kVA = true := by decide +kernel
end C78
