/-! ===== the model: a rule's number ===== -/
section MRULE
variable {E : xE} {d : Nat} {Q : xR → Prop} {H : xH} {K : Nat} {g : Nat → Nat → Int32} {q : Nat → Int32} {th sz ea : Int32} {tp kp wc ms : Nat → Int32} {b a : Nat → Nat → Int32} {s t : Nat → Int32}
/-- how one step of the class's rule lies in the model's orders -/
def tau (k v x y : Int32) : Prop :=
  (k = 2 ∧ x = 300 ∧ y = v) ∨ (∃ i, i < 10 ∧ k = nI (116 + i) ∧ x = 301 ∧ y = nI i) ∨ (k = 4 ∧ x = 302) ∨ (k = 113 ∧ x = 213) ∨ (k = 108 ∧ x = 303) ∨
  (k = 111 ∧ x = 211) ∨ (k = 112 ∧ x = 212) ∨ (k = 114 ∧ x = 214) ∨ (k = 115 ∧ x = 215) ∨ (k = 37 ∧ x = 37) ∨ (k = 42 ∧ x = 42) ∨ (k = 43 ∧ x = 43) ∨ (k = 45 ∧ x = 45) ∨ (k = 47 ∧ x = 47) ∨ (k = 60 ∧ x = 60) ∨ (k = 61 ∧ x = 61) ∨ (k = 62 ∧ x = 62)
/-- the stack's height behind a step -/
def hst (k : Int32) (h : Nat) : Nat := if k = 2 ∨ (¬ k < 116 ∧ ¬ 125 < k) then h + 1 else if k = 4 ∨ k = 113 then h else if k = 108 then h - 2 else h - 1
/-- the least height that a step needs -/
def hnd (k : Int32) : Nat := if k = 2 ∨ (¬ k < 116 ∧ ¬ 125 < k) then 0 else if k = 4 ∨ k = 113 then 1 else if k = 108 then 3 else 2
/-- m steps from step i on, at height h, are a whole rule's rest -/
def hgt (kd : Nat → Int32) : Nat → Nat → Nat → Prop
  | _, 0, h => h = 1
  | i, m + 1, h => hnd (kd i) ≤ h ∧ h < 400 ∧ hgt kd (i + 1) m (hst (kd i) h)
end MRULE
