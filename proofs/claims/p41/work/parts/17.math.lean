/-! ===== the pictures of the class's objects, and what its methods tell, in numbers ===== -/
/-- a book at K: rows b 0 .. b 11 (kinds, numbers, kettle's column, row, steam, customs' column, row, home's column, row, noses, rule's start, end), numbers s 0 .. s 5 (columns, rows, kettles, customs, clippers, steps) -/
def kB (H : xH) (K : Nat) (b : Nat → Nat → Int32) (nm : Nat → Int64) (s : Nat → Int32) : Prop :=
  H.1 K = .inr (1, [.ref (K + 1), .ref (K + 4), .ref (K + 5), .ref (K + 6), .ref (K + 7), .ref (K + 8), .ref (K + 9), .ref (K + 10), .ref (K + 11), .ref (K + 12), .ref (K + 13), .ref (K + 14), .int (s 0), .int (s 1), .int (s 2), .int (s 3), .int (s 4)]) ∧
  H.1 (K + 1) = .inr (5, [.ref (K + 2), .ref (K + 3), .int (s 5)]) ∧ H.1 (K + 2) = xarI 400 (b 0) ∧ H.1 (K + 3) = xarI 400 (b 1) ∧
  H.1 (K + 4) = xarI 6 (b 2) ∧ H.1 (K + 5) = xarI 6 (b 3) ∧ H.1 (K + 6) = xarI 6 (b 4) ∧ H.1 (K + 7) = xarI 6 (b 5) ∧ H.1 (K + 8) = xarI 6 (b 6) ∧ H.1 (K + 9) = xarJ 6 nm ∧
  H.1 (K + 10) = xarI 6 (b 7) ∧ H.1 (K + 11) = xarI 6 (b 8) ∧ H.1 (K + 12) = xarI 6 (b 9) ∧ H.1 (K + 13) = xarI 6 (b 10) ∧ H.1 (K + 14) = xarI 6 (b 11)
/-- a bay at B over the book at K: rows a 0 .. a 8 (becalmed, before, visits, column, row, leaf, way, points, sips), t 0 .. t 2 (wind, force, hour) -/
def kY (H : xH) (B K : Nat) (a : Nat → Nat → Int32) (t : Nat → Int32) : Prop :=
  H.1 B = .inr (0, [.ref 40, .ref (B + 1), .ref (B + 2), .ref (B + 3), .ref (B + 4), .ref (B + 5), .ref (B + 6), .ref (B + 7), .ref (B + 8), .ref (B + 9), .ref K, .int (t 0), .int (t 1), .int (t 2)]) ∧
  H.1 (B + 1) = xarI 6 (a 0) ∧ H.1 (B + 2) = xarI 6 (a 1) ∧ H.1 (B + 3) = xarI 6 (a 2) ∧ H.1 (B + 4) = xarI 6 (a 3) ∧ H.1 (B + 5) = xarI 6 (a 4) ∧ H.1 (B + 6) = xarI 6 (a 5) ∧ H.1 (B + 7) = xarI 6 (a 6) ∧ H.1 (B + 8) = xarI 6 (a 7) ∧ H.1 (B + 9) = xarI 6 (a 8)
/-- the teller: measures, stack, height -/
def kT (H : xH) (ms sk : Nat → Int32) (h : Int32) : Prop := H.1 40 = .inr (4, [.ref 41, .ref 42, .int h]) ∧ H.1 41 = xarI 10 ms ∧ H.1 42 = xarI 400 sk
def xabs (x : Int32) : Int32 := if 0 ≤ x then x else 0 - x
def eaw (d : Int32) : Int32 := if d = 1 then 1 else if d = 3 then -1 else 0
def sow (d : Int32) : Int32 := if d = 2 then 1 else if d = 0 then -1 else 0
/-- the first of m places from i on that is at a cell; -1 -/
def kAt (kc kr : Nat → Int32) (x y : Int32) : Nat → Nat → Int32
  | _, 0 => -1
  | i, m + 1 => if kc i = x ∧ kr i = y then nI i else kAt kc kr x y (i + 1) m
/-- whether a cell is a customs' one (1 or 0), whether a name is among them -/
def cAt (kc kr : Nat → Int32) (x y : Int32) : Nat → Nat → Int32
  | _, 0 => 0
  | i, m + 1 => if kc i = x ∧ kr i = y then 1 else cAt kc kr x y (i + 1) m
def nAt (nm : Nat → Int64) (x : Int64) : Nat → Nat → Int32
  | _, 0 => 0
  | i, m + 1 => if nm i = x then 1 else nAt nm x (i + 1) m
theorem cAt_01 {kc kr : Nat → Int32} {x y : Int32} : ∀ m i, cAt kc kr x y i m = 0 ∨ cAt kc kr x y i m = 1
  | 0, _ => Or.inl rfl
  | m + 1, i => by
    unfold cAt
    split
    · exact Or.inr rfl
    · exact cAt_01 m (i + 1)
theorem xnb_c {kc kr : Nat → Int32} {x y : Int32} {m i : Nat} : (narrow .boolean (.int (cAt kc kr x y i m)) = .int (cAt kc kr x y i m)) = True := by
  rcases cAt_01 (kc := kc) (kr := kr) (x := x) (y := y) m i with h | h <;> rw [h]
  · exact xnb_0
  · exact xnb_1
theorem nAt_01 {nm : Nat → Int64} {x : Int64} : ∀ m i, nAt nm x i m = 0 ∨ nAt nm x i m = 1
  | 0, _ => Or.inl rfl
  | m + 1, i => by
    unfold nAt
    split
    · exact Or.inr rfl
    · exact nAt_01 m (i + 1)
def aroV (ks kc kr fx fy : Int32) : Int32 := if 0 < ks - 2 * (xabs (kc - fx) + xabs (kr - fy)) then ks - 2 * (xabs (kc - fx) + xabs (kr - fy)) else 0
def aro (ca ks kc kr : Nat → Int32) (fx fy : Int32) : Nat → Nat → Int32 → Int32
  | _, 0, z => z
  | i, m + 1, z => aro ca ks kc kr fx fy (i + 1) m (if ca i = 0 then z + aroV (ks i) (kc i) (kr i) fx fy else z)
theorem nlt {i n : Nat} (h : i < n) (hn : n < 2147483648) : (nI i < nI n) = True := eq_true (nI_lt h hn)
theorem nge {i n : Nat} (h : n ≤ i) (hi : i < 2147483648) : (nI i < nI n) = False := eq_false (nI_nlt h hi)
theorem ncl {i : Nat} (h : i < 2147483648) : (nI i).toNatClampNeg = i := nI_clamp h
theorem nvp {i N : Nat} (h : i < N) (hN : N < 2147483648) : vp_in (nI i) N = True := eq_true (vp_in_nI h hN)
