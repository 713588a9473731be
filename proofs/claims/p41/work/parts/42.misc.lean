/-! ===== small things ===== -/
section MISC
variable {b a : Nat → Nat → Int32} {s t : Nat → Int32} {ms : Nat → Int32}
theorem k1_0 : ((1 : Int32) = 0) = False := by decide
theorem nI_ad (x y : Nat) : nI x + nI y = nI (x + y) := (Int32.ofNat_add x y).symm
theorem nI_mu (x y : Nat) : nI x * nI y = nI (x * y) := (Int32.ofNat_mul x y).symm
theorem nI_i {x : Nat} (h : x < 2147483648) : (nI x).toInt = (x : Int) := nI_toInt h
theorem ti_sub {x y : Int32} (h1 : -2147483648 ≤ x.toInt - y.toInt) (h2 : x.toInt - y.toInt < 2147483648) : (x - y).toInt = x.toInt - y.toInt := by
  rw [Int32.toInt_sub]
  exact Int.bmod_eq_of_le (by omega) (by omega)
theorem ti_add {x y : Int32} (h1 : -2147483648 ≤ x.toInt + y.toInt) (h2 : x.toInt + y.toInt < 2147483648) : (x + y).toInt = x.toInt + y.toInt := by
  rw [Int32.toInt_add]
  exact Int.bmod_eq_of_le (by omega) (by omega)
theorem ti_mul {x y : Int32} (h1 : -2147483648 ≤ x.toInt * y.toInt) (h2 : x.toInt * y.toInt < 2147483648) : (x * y).toInt = x.toInt * y.toInt := by
  rw [Int32.toInt_mul]
  exact Int.bmod_eq_of_le (by omega) (by omega)
theorem nI_tn {x : Int32} (h : 0 ≤ x.toInt) : x = nI x.toInt.toNat := by
  refine Int32.toInt_inj.mp ?_
  have := x.toInt_lt
  rw [nI_i (by omega)]
  omega
theorem nI_inj {x y : Nat} (hx : x < 2147483648) (hy : y < 2147483648) (h : nI x = nI y) : x = y := by
  have e := congrArg Int32.toInt h
  rw [nI_i hx, nI_i hy] at e
  omega
theorem xabs_t {z : Int32} (h : -2147483648 < z.toInt) : (xabs z).toInt = if 0 ≤ z.toInt then z.toInt else - z.toInt := by
  unfold xabs
  by_cases p : 0 ≤ z.toInt
  · rw [if_pos p, if_pos (show (0 : Int32) ≤ z from Int32.le_iff_toInt_le.mpr p)]
  · rw [if_neg p, if_neg (fun e : (0 : Int32) ≤ z => p (Int32.le_iff_toInt_le.mp e))]
    have l1 := z.toInt_lt
    have e0 : (0 : Int32).toInt = 0 := rfl
    rw [ti_sub (by rw [e0]; omega) (by rw [e0]; omega), e0]
    omega
theorem upd_s {f : Nat → Int32} {i : Nat} {v : Int32} : upd f i v i = v := if_pos rfl
theorem upd_o {f : Nat → Int32} {i j : Nat} {v : Int32} (h : ¬ j = i) : upd f i v j = f j := if_neg h
/-- how one step of the class's rule lies in the model's orders -/
def tau (k v x y : Int32) : Prop :=
  (k = 2 ∧ x = 300 ∧ y = v) ∨ (∃ i, i < 10 ∧ k = nI (116 + i) ∧ x = 301 ∧ y = nI i) ∨ (k = 4 ∧ x = 302) ∨ (k = 113 ∧ x = 213) ∨ (k = 108 ∧ x = 303) ∨
  (k = 111 ∧ x = 211) ∨ (k = 112 ∧ x = 212) ∨ (k = 114 ∧ x = 214) ∨ (k = 115 ∧ x = 215) ∨ (k = 37 ∧ x = 37) ∨ (k = 42 ∧ x = 42) ∨ (k = 43 ∧ x = 43) ∨ (k = 45 ∧ x = 45) ∨ (k = 47 ∧ x = 47) ∨ (k = 60 ∧ x = 60) ∨ (k = 61 ∧ x = 61) ∨ (k = 62 ∧ x = 62)
/-- the stack's height behind a step -/
def hst (k : Int32) (h : Nat) : Nat := if k = 2 ∨ (¬ k < 116 ∧ ¬ 125 < k) then h + 1 else if k = 4 ∨ k = 113 then h else if k = 108 then h - 2 else h - 1
/-- the least height that a step needs -/
def hnd (k : Int32) : Nat := if k = 2 ∨ (¬ k < 116 ∧ ¬ 125 < k) then 0 else if k = 4 ∨ k = 113 then 1 else if k = 108 then 3 else 2
/-- m steps from step i on, at height h, are a whole rule's rest -/
def hgt (kd : Nat → Int32) : Nat → Nat → Nat → Prop
  | _, 0, h => h = 1
  | i, m + 1, h => hnd (kd i) ≤ h ∧ h < 400 ∧ hgt kd (i + 1) m (hst (kd i) h)
theorem ps_is {p : stk} {v : Int32} (h : p.2 < 400) : pshR p v = (upd p.1 p.2 v, p.2 + 1) := if_pos h
theorem po_is {p : stk} (h : 1 ≤ p.2) : popR p = (p.1, p.2 - 1) ∧ popV p = p.1 (p.2 - 1) := ⟨if_neg (by omega), if_neg (by omega)⟩
theorem rs_2 {v : Int32} {p : stk} (h : p.2 < 400) : rst ms 2 v p = (upd p.1 p.2 v, p.2 + 1) := (if_pos rfl).trans (ps_is h)
theorem rs_1 {k v : Int32} {p : stk} (hk : k = 4 ∨ k = 113) (h1 : 1 ≤ p.2) (h : p.2 < 400) : rst ms k v p = (upd p.1 (p.2 - 1) (if k = 4 then -p.1 (p.2 - 1) else xb (p.1 (p.2 - 1) = 0)), p.2) := by
  have hp := po_is h1
  have e : ∀ w, pshR (popR p) w = (upd p.1 (p.2 - 1) w, p.2) := by
    intro w
    rw [hp.1, ps_is (p := (p.1, p.2 - 1)) (show p.2 - 1 < 400 by omega)]
    show (upd p.1 (p.2 - 1) w, p.2 - 1 + 1) = _
    rw [show p.2 - 1 + 1 = p.2 by omega]
  rcases hk with r | r <;> subst r
  · show pshR (popR p) (-popV p) = _
    rw [e, hp.2, if_pos rfl]
  · show pshR (popR p) (xb (popV p = 0)) = _
    rw [e, hp.2, if_neg (by decide)]
theorem rs_3 {v : Int32} {p : stk} (h3 : 3 ≤ p.2) (h : p.2 < 400) : rst ms 108 v p = (upd p.1 (p.2 - 3) (if p.1 (p.2 - 3) = 0 then p.1 (p.2 - 1) else p.1 (p.2 - 2)), p.2 - 2) := by
  obtain ⟨f, n⟩ := p
  have h3' : 3 ≤ n := h3
  have a1 := po_is (p := (f, n)) (show 1 ≤ n by omega)
  have a2 := po_is (p := (f, n - 1)) (show 1 ≤ n - 1 by omega)
  have a3 := po_is (p := (f, n - 1 - 1)) (show 1 ≤ n - 1 - 1 by omega)
  show pshR (popR (popR (popR (f, n)))) (if popV (popR (popR (f, n))) = 0 then popV (f, n) else popV (popR (f, n))) = _
  rw [a1.1, a2.1, a3.1, a1.2, a2.2, a3.2]
  have hn : n < 400 := h
  rw [ps_is (p := (f, n - 1 - 1 - 1)) (show n - 1 - 1 - 1 < 400 by omega)]
  show (upd f (n - 1 - 1 - 1) (if f (n - 1 - 1 - 1) = 0 then f (n - 1) else f (n - 1 - 1)), n - 1 - 1 - 1 + 1) = (upd f (n - 3) (if f (n - 3) = 0 then f (n - 1) else f (n - 2)), n - 2)
  rw [show n - 1 - 1 - 1 + 1 = n - 2 by omega, show n - 1 - 1 - 1 = n - 3 by omega, show n - 1 - 1 = n - 2 by omega]
theorem rs_j {k v : Int32} {p : stk} (h2 : 2 ≤ p.2) (h : p.2 < 400) (e : rst ms k v p = pshR (popR (popR p)) (joC k (popV (popR p)) (popV p))) : rst ms k v p = (upd p.1 (p.2 - 2) (joC k (p.1 (p.2 - 2)) (p.1 (p.2 - 1))), p.2 - 1) := by
  obtain ⟨f, n⟩ := p
  have h2' : 2 ≤ n := h2
  have hn : n < 400 := h
  have a1 := po_is (p := (f, n)) (show 1 ≤ n by omega)
  have a2 := po_is (p := (f, n - 1)) (show 1 ≤ n - 1 by omega)
  rw [e, a1.1, a2.1, a1.2, a2.2, ps_is (p := (f, n - 1 - 1)) (show n - 1 - 1 < 400 by omega)]
  show (upd f (n - 1 - 1) (joC k (f (n - 1 - 1)) (f (n - 1))), n - 1 - 1 + 1) = (upd f (n - 2) (joC k (f (n - 2)) (f (n - 1))), n - 1)
  rw [show n - 1 - 1 + 1 = n - 1 by omega, show n - 1 - 1 = n - 2 by omega]

theorem rst_j {k v : Int32} {p : stk} (q1 : ¬ k = 2) (q2 : ¬ (¬ k < 116 ∧ ¬ 125 < k)) (q3 : ¬ k = 4) (q4 : ¬ k = 113) (q5 : ¬ k = 108) : rst ms k v p = pshR (popR (popR p)) (joC k (popV (popR p)) (popV p)) := (if_neg q1).trans ((if_neg q2).trans ((if_neg q3).trans ((if_neg q4).trans (if_neg q5))))
theorem nI_a1 {i : Nat} (h : 1 ≤ i) (hi : i < 2147483648) : nI i + (-1) = nI (i - 1) := by
  rw [← nI_m i h hi, Int32.sub_eq_add_neg]
theorem nI_a2 {i : Nat} (h : 2 ≤ i) (hi : i < 2147483648) : nI i + (-2) = nI (i - 2) := by
  have e : (-2 : Int32) = (-1) + (-1) := by decide
  rw [e, ← Int32.add_assoc, nI_a1 (by omega) hi, nI_a1 (by omega) (by omega)]
  rfl
theorem rs_ask {n : Nat} {v : Int32} {p : stk} (hn : n < 10) (h : p.2 < 400) : rst ms (nI (116 + n)) v p = (upd p.1 p.2 (ms n), p.2 + 1) := by
  have w : n = 0 ∨ n = 1 ∨ n = 2 ∨ n = 3 ∨ n = 4 ∨ n = 5 ∨ n = 6 ∨ n = 7 ∨ n = 8 ∨ n = 9 := by omega
  rcases w with w | w | w | w | w | w | w | w | w | w <;> subst w <;> exact ((if_neg (by decide)).trans (if_pos (by decide))).trans (ps_is h)
theorem fil_g {v f : Nat → Int32} : ∀ m i j, fil v i m f j = if i ≤ j ∧ j < i + m then v j else f j := by
  intro m
  induction m generalizing f with
  | zero => intro i j; exact (if_neg (by omega)).symm
  | succ m ih =>
    intro i j
    show fil v (i + 1) m (upd f i (v i)) j = _
    rw [ih]
    by_cases p : j = i
    · subst p
      rw [if_neg (by omega), if_pos (by omega), upd_s]
    · by_cases r : i + 1 ≤ j ∧ j < i + 1 + m
      · rw [if_pos r, if_pos (by omega)]
      · rw [if_neg r, if_neg (by omega), upd_o p]
end MISC
