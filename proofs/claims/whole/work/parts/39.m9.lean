/-! ===== the two books together; how things stand; what a rule tells does not hang on what the stack held ===== -/
section BOTH
variable {b a : Nat → Nat → Int32} {s t : Nat → Int32} {g : Nat → Nat → Int32} {q : Nat → Int32}
/-- the two books tell the same -/
def kTwo (b : Nat → Nat → Int32) (s : Nat → Int32) (g : Nat → Nat → Int32) (q : Nat → Int32) (co ro nk nc nn cnt : Nat) (rs re : Nat → Nat) : Prop :=
  kRk b s g q nk ∧ kRc b s g q nn rs re ∧ kW b s nk nc nn cnt rs re ∧ (s 0 = nI co ∧ s 1 = nI ro ∧ 3 ≤ co ∧ co ≤ 12 ∧ 3 ≤ ro ∧ ro ≤ 12) ∧ q 3 = nI nc ∧
  (∀ k, k < nk → ∃ x y z, x < co ∧ y < ro ∧ z ≤ 30 ∧ b 2 k = nI x ∧ b 3 k = nI y ∧ b 4 k = nI z ∧ g 0 k = nI (co * y + x) ∧ g 1 k = nI z) ∧
  (∀ k, k < nc → ∃ x y, x < co ∧ y < ro ∧ b 5 k = nI x ∧ b 6 k = nI y ∧ g 2 k = nI (co * y + x)) ∧
  (∀ c, c < nn → ∃ x y, x < co ∧ y < ro ∧ b 7 c = nI x ∧ b 8 c = nI y) ∧
  (∀ j, j < cnt → tau (b 0 j) (b 1 j) (g 7 (2 * j)) (g 7 (2 * j + 1))) ∧ (∀ c, c < nn → hgt (b 0) (rs c) (re c - rs c) 0)
/-- how things stand: at most n sails of a clipper behind the start -/
def kSt (a : Nat → Nat → Int32) (t : Nat → Int32) (co ro nk nn n : Nat) : Prop :=
  (∀ k, k < nk → ∃ z, z ≤ 20 ∧ a 0 k = nI z) ∧
  (∀ c, c < nn → ∃ x y l p, x < co ∧ y < ro ∧ l ≤ 30 ∧ p ≤ 30 * n ∧ a 3 c = nI x ∧ a 4 c = nI y ∧ a 5 c = nI l ∧ a 7 c = nI p) ∧
  ∃ w f, w ≤ 3 ∧ f ≤ 3 ∧ t 0 = nI w ∧ t 1 = nI f
theorem kSt_b {co ro nk nn n : Nat} (h : kSt a t co ro nk nn n) : bOK a nk := by
  intro k hk
  obtain ⟨z, z1, z2⟩ := h.1 k hk
  rw [z2, nI_n0 z (by omega)]
  exact id
theorem nI_i {x : Nat} (h : x < 2147483648) : (nI x).toInt = (x : Int) := nI_toInt h
theorem ti_sub {x y : Int32} (h1 : -2147483648 ≤ x.toInt - y.toInt) (h2 : x.toInt - y.toInt < 2147483648) : (x - y).toInt = x.toInt - y.toInt := by
  rw [Int32.toInt_sub]
  exact Int.bmod_eq_of_le (by omega) (by omega)
theorem ti_add {x y : Int32} (h1 : -2147483648 ≤ x.toInt + y.toInt) (h2 : x.toInt + y.toInt < 2147483648) : (x + y).toInt = x.toInt + y.toInt := by
  rw [Int32.toInt_add]
  exact Int.bmod_eq_of_le (by omega) (by omega)
theorem ti_mul {x y : Int32} (h1 : -2147483648 ≤ x.toInt * y.toInt) (h2 : x.toInt * y.toInt < 2147483648) : (x * y).toInt = x.toInt * y.toInt := by
  rw [Int32.toInt_mul]
  exact Int.bmod_eq_of_le (by omega) (by omega)
theorem nI_tn {x : Int32} (h : 0 ≤ x.toInt) : x = nI x.toInt.toNat := by
  refine Int32.toInt_inj.mp ?_
  have := x.toInt_lt
  rw [nI_i (by omega)]
  omega
theorem nI_inj {x y : Nat} (hx : x < 2147483648) (hy : y < 2147483648) (h : nI x = nI y) : x = y := by
  have e := congrArg Int32.toInt h
  rw [nI_i hx, nI_i hy] at e
  omega
theorem xabs_t {z : Int32} (h : -2147483648 < z.toInt) : (xabs z).toInt = if 0 ≤ z.toInt then z.toInt else - z.toInt := by
  unfold xabs
  by_cases p : 0 ≤ z.toInt
  · rw [if_pos p, if_pos (show (0 : Int32) ≤ z from Int32.le_iff_toInt_le.mpr p)]
  · rw [if_neg p, if_neg (fun e : (0 : Int32) ≤ z => p (Int32.le_iff_toInt_le.mp e))]
    have l1 := z.toInt_lt
    have e0 : (0 : Int32).toInt = 0 := rfl
    rw [ti_sub (by rw [e0]; omega) (by rw [e0]; omega), e0]
    omega
theorem aroV_b {x y z : Nat} {fx fy : Int32} (hx : x ≤ 100) (hy : y ≤ 100) (hz : z ≤ 30) (f1 : -100 ≤ fx.toInt) (f2 : fx.toInt ≤ 100) (f3 : -100 ≤ fy.toInt) (f4 : fy.toInt ≤ 100) : ∃ v, v ≤ 30 ∧ aroV (nI z) (nI x) (nI y) fx fy = nI v := by
  have ex := nI_i (x := x) (by omega)
  have ey := nI_i (x := y) (by omega)
  have ez := nI_i (x := z) (by omega)
  have dx : (nI x - fx).toInt = x - fx.toInt := by rw [ti_sub (by omega) (by omega), ex]
  have dy : (nI y - fy).toInt = y - fy.toInt := by rw [ti_sub (by omega) (by omega), ey]
  have ax : (xabs (nI x - fx)).toInt = if 0 ≤ (x : Int) - fx.toInt then x - fx.toInt else -(x - fx.toInt) := by rw [xabs_t (by omega), dx]
  have ay : (xabs (nI y - fy)).toInt = if 0 ≤ (y : Int) - fy.toInt then y - fy.toInt else -(y - fy.toInt) := by rw [xabs_t (by omega), dy]
  generalize hA : xabs (nI x - fx) = A at ax
  generalize hB : xabs (nI y - fy) = B at ay
  have bA : 0 ≤ A.toInt ∧ A.toInt ≤ 200 := by rw [ax]; split <;> omega
  have bB : 0 ≤ B.toInt ∧ B.toInt ≤ 200 := by rw [ay]; split <;> omega
  have e1 : (A + B).toInt = A.toInt + B.toInt := ti_add (by omega) (by omega)
  have e2' : (2 : Int32).toInt = 2 := rfl
  have e2 : (2 * (A + B)).toInt = 2 * (A.toInt + B.toInt) := by rw [ti_mul (by rw [e2', e1]; omega) (by rw [e2', e1]; omega), e1, e2']
  have e3 : (nI z - 2 * (A + B)).toInt = z - 2 * (A.toInt + B.toInt) := by rw [ti_sub (by omega) (by omega), e2, ez]
  unfold aroV
  rw [hA, hB]
  by_cases p : 0 < nI z - 2 * (A + B)
  · rw [if_pos p]
    have p' : 0 < (nI z - 2 * (A + B)).toInt := Int32.lt_iff_toInt_lt.mp p
    exact ⟨(nI z - 2 * (A + B)).toInt.toNat, by omega, nI_tn (by omega)⟩
  · rw [if_neg p]
    exact ⟨0, by omega, rfl⟩
theorem aro_b {ca : Nat → Int32} {fx fy : Int32} {nk : Nat} (hk : nk ≤ 6) (hb : ∀ k, k < nk → ∃ x y z, x ≤ 100 ∧ y ≤ 100 ∧ z ≤ 30 ∧ b 2 k = nI x ∧ b 3 k = nI y ∧ b 4 k = nI z) (f1 : -100 ≤ fx.toInt) (f2 : fx.toInt ≤ 100) (f3 : -100 ≤ fy.toInt) (f4 : fy.toInt ≤ 100) : ∀ m i w, i + m = nk → w ≤ 30 * i → ∃ v, v ≤ 180 ∧ aro ca (b 4) (b 2) (b 3) fx fy i m (nI w) = nI v := by
  intro m
  induction m with
  | zero =>
    intro i w hi hw
    exact ⟨w, by omega, rfl⟩
  | succ m ih =>
    intro i w hi hw
    obtain ⟨x, y, z, h1, h2, h3, h4, h5, h6⟩ := hb i (by omega)
    obtain ⟨v, v1, v2⟩ := aroV_b h1 h2 h3 f1 f2 f3 f4
    unfold aro
    rw [h4, h5, h6, v2]
    by_cases p : ca i = 0
    · rw [if_pos p, nI_ad]
      exact ih (i + 1) _ (by omega) (by omega)
    · rw [if_neg p]
      exact ih (i + 1) _ (by omega) (by omega)
theorem eaw_b (d : Int32) : eaw d = 1 ∨ eaw d = -1 ∨ eaw d = 0 := by
  unfold eaw
  repeat' split
  · exact Or.inl rfl
  · exact Or.inr (Or.inl rfl)
  · exact Or.inr (Or.inr rfl)
theorem sow_b (d : Int32) : sow d = 1 ∨ sow d = -1 ∨ sow d = 0 := by
  unfold sow
  repeat' split
  · exact Or.inl rfl
  · exact Or.inr (Or.inl rfl)
  · exact Or.inr (Or.inr rfl)
theorem wf_b {e : Int32} (he : e = 1 ∨ e = -1 ∨ e = 0) {f : Nat} (hf : f ≤ 3) : -3 ≤ (e * nI f).toInt ∧ (e * nI f).toInt ≤ 3 := by
  have w : f = 0 ∨ f = 1 ∨ f = 2 ∨ f = 3 := by omega
  rcases he with p | p | p <;> rcases w with r | r | r | r <;> subst p <;> subst r <;> decide
/-- the aroma of a cell within the bay is 0 to 180 -/
theorem aroC_b {nk co ro nn n : Nat} (hk : nk ≤ 6) (hc : co ≤ 12) (hr : ro ≤ 12) (hb : ∀ k, k < nk → ∃ x y z, x < co ∧ y < ro ∧ z ≤ 30 ∧ b 2 k = nI x ∧ b 3 k = nI y ∧ b 4 k = nI z) (hS : kSt a t co ro nk nn n) {x y : Int32} (x0 : 0 ≤ x.toInt) (x1 : x.toInt ≤ 12) (y0 : 0 ≤ y.toInt) (y1 : y.toInt ≤ 12) : ∃ v, v ≤ 180 ∧ aroC a t b nk x y = nI v := by
  obtain ⟨w, f, w1, f1, w2, f2⟩ := hS.2.2
  have p1 := wf_b (eaw_b (t 0)) f1
  have p2 := wf_b (sow_b (t 0)) f1
  rw [← f2] at p1 p2
  have e1 : (x - eaw (t 0) * t 1).toInt = x.toInt - (eaw (t 0) * t 1).toInt := ti_sub (by omega) (by omega)
  have e2 : (y - sow (t 0) * t 1).toInt = y.toInt - (sow (t 0) * t 1).toInt := ti_sub (by omega) (by omega)
  refine aro_b hk (fun k hk => ?_) (by omega) (by omega) (by omega) (by omega) nk 0 0 (by omega) (by omega)
  obtain ⟨x, y, z, h1, h2, h3, h4⟩ := hb k hk
  exact ⟨x, y, z, by omega, by omega, h3, h4⟩
theorem celC_1 {co ro : Nat} (h0 : s 0 = nI co) (h1 : s 1 = nI ro) (hc : co ≤ 12) (hr : ro ≤ 12) {x y : Int32} (h : ¬ celC s x y = 0) : ∃ u v, u < co ∧ v < ro ∧ x = nI u ∧ y = nI v := by
  unfold celC at h
  rw [xb_0, Decidable.not_not, h0, h1] at h
  obtain ⟨p1, p2, p3, p4⟩ := h
  have e1 : ¬ x.toInt < 0 := fun e => p1 (Int32.lt_iff_toInt_lt.mpr e)
  have e3 : ¬ y.toInt < 0 := fun e => p3 (Int32.lt_iff_toInt_lt.mpr e)
  have e2 := Int32.lt_iff_toInt_lt.mp p2
  have e4 := Int32.lt_iff_toInt_lt.mp p4
  rw [nI_i (by omega)] at e2 e4
  exact ⟨x.toInt.toNat, y.toInt.toNat, by omega, by omega, nI_tn (by omega), nI_tn (by omega)⟩
theorem sme_b {nk co ro nn n : Nat} (hk : nk ≤ 6) (h0 : s 0 = nI co) (h1 : s 1 = nI ro) (hc : co ≤ 12) (hr : ro ≤ 12) (hb : ∀ k, k < nk → ∃ x y z, x < co ∧ y < ro ∧ z ≤ 30 ∧ b 2 k = nI x ∧ b 3 k = nI y ∧ b 4 k = nI z) (hS : kSt a t co ro nk nn n) {c : Nat} (hn : ∃ z, 1 ≤ z ∧ z ≤ 4 ∧ b 9 c = nI z) (x : Int32) : -1 < smeC a b t s nk c x := by
  unfold smeC
  by_cases p : celC s (a 3 c + eaw x) (a 4 c + sow x) = 0
  · rw [if_pos p]; decide
  · rw [if_neg p]
    obtain ⟨u, v, u1, v1, u2, v2⟩ := celC_1 h0 h1 hc hr p
    rw [u2, v2]
    have eu := nI_i (x := u) (by omega)
    have ev := nI_i (x := v) (by omega)
    obtain ⟨w, w1, w2⟩ := aroC_b hk hc hr hb hS (x := nI u) (y := nI v) (by omega) (by omega) (by omega) (by omega)
    obtain ⟨z, z1, z2, z3⟩ := hn
    rw [w2, z3, show (5 : Int32) = nI 5 from rfl, nI_mu]
    refine Int32.lt_iff_toInt_lt.mpr ?_
    rw [show (-1 : Int32).toInt = -1 from rfl]
    split
    · rw [nI_i (by omega)]; omega
    · rw [nI_i (by omega)]; omega
theorem kTwo_sme {co ro nk nc nn cnt n : Nat} {rs re : Nat → Nat} (hT : kTwo b s g q co ro nk nc nn cnt rs re) (hS : kSt a t co ro nk nn n) {c : Nat} (hc : c < nn) (x : Int32) : -1 < smeC a b t s nk c x := by
  obtain ⟨h1, h2, h3, ⟨e1, e2, e3, e4, e5, e6⟩, h5, h6, h7, h8, h9, h10⟩ := id hT
  refine sme_b h3.2.1 e1 e2 e4 e6 (fun k hk => ?_) hS (h2.2.2 c hc).2.2.2.1 x
  obtain ⟨x, y, z, r1, r2, r3, r4, r5, r6, r7⟩ := h6 k hk
  exact ⟨x, y, z, r1, r2, r3, r4, r5, r6⟩
/-- two stacks that agree below a height -/
theorem ag_u {f f' : Nat → Int32} {n : Nat} {v v' : Int32} (h : ∀ j, j < n → f' j = f j) (hv : v' = v) : ∀ j, j < n + 1 → upd f' n v' j = upd f n v j := by
  intro j hj
  unfold upd
  by_cases p : j = n
  · rw [if_pos p, if_pos p]; exact hv
  · rw [if_neg p, if_neg p]; exact h j (by omega)
theorem rst_same {ms ms' : Nat → Int32} (hms : ∀ i, i < 10 → ms' i = ms i) {k v x y : Int32} (hk : tau k v x y) {p p' : stk} (h1 : hnd k ≤ p.2) (h2 : p.2 < 400) (e : p'.2 = p.2) (ag : ∀ j, j < p.2 → p'.1 j = p.1 j) :
    (rst ms k v p).2 = hst k p.2 ∧ (rst ms' k v p').2 = hst k p.2 ∧ ∀ j, j < hst k p.2 → (rst ms' k v p').1 j = (rst ms k v p).1 j := by
  obtain ⟨f', n'⟩ := p'
  obtain ⟨f, n⟩ := p
  have e' : n' = n := e
  subst e'
  have h2' : n' < 400 := h2
  have ag' : ∀ j, j < n' → f' j = f j := ag
  have join : ∀ k : Int32, 2 ≤ n' → hst k n' = n' - 1 → rst ms k v (f, n') = pshR (popR (popR (f, n'))) (joC k (popV (popR (f, n'))) (popV (f, n'))) → rst ms' k v (f', n') = pshR (popR (popR (f', n'))) (joC k (popV (popR (f', n'))) (popV (f', n'))) →
      (rst ms k v (f, n')).2 = hst k n' ∧ (rst ms' k v (f', n')).2 = hst k n' ∧ ∀ j, j < hst k n' → (rst ms' k v (f', n')).1 j = (rst ms k v (f, n')).1 j := by
    intro k q1 q2 q3 q4
    rw [rs_j (p := (f, n')) q1 h2' q3, rs_j (p := (f', n')) q1 h2' q4, q2]
    refine ⟨rfl, rfl, fun j hj => ?_⟩
    refine ag_u (n := n' - 2) (fun j hj => ag' j (by omega)) ?_ j (by omega)
    show joC k (f' (n' - 2)) (f' (n' - 1)) = joC k (f (n' - 2)) (f (n' - 1))
    rw [ag' _ (by omega), ag' _ (by omega)]
  rcases hk with ⟨z1, z2, z3⟩ | ⟨i, z0, z1, z2, z3⟩ | ⟨z1, z2⟩ | ⟨z1, z2⟩ | ⟨z1, z2⟩ | ⟨z1, z2⟩ | ⟨z1, z2⟩ | ⟨z1, z2⟩ | ⟨z1, z2⟩ | ⟨z1, z2⟩ | ⟨z1, z2⟩ | ⟨z1, z2⟩ | ⟨z1, z2⟩ | ⟨z1, z2⟩ | ⟨z1, z2⟩ | ⟨z1, z2⟩ | ⟨z1, z2⟩
  · subst z1
    rw [rs_2 (p := (f, n')) h2', rs_2 (p := (f', n')) h2']
    exact ⟨rfl, rfl, ag_u ag' rfl⟩
  · have eh : hst k n' = n' + 1 := by
      rw [z1]
      have w : i = 0 ∨ i = 1 ∨ i = 2 ∨ i = 3 ∨ i = 4 ∨ i = 5 ∨ i = 6 ∨ i = 7 ∨ i = 8 ∨ i = 9 := by omega
      rcases w with w | w | w | w | w | w | w | w | w | w <;> subst w <;> rfl
    show (rst ms k v (f, n')).2 = hst k n' ∧ (rst ms' k v (f', n')).2 = hst k n' ∧ ∀ j, j < hst k n' → (rst ms' k v (f', n')).1 j = (rst ms k v (f, n')).1 j
    rw [eh, z1, rs_ask (p := (f, n')) z0 h2', rs_ask (p := (f', n')) z0 h2']
    exact ⟨rfl, rfl, ag_u ag' (hms i z0)⟩
  · subst z1
    have h1' : 1 ≤ n' := h1
    rw [rs_1 (p := (f, n')) (Or.inl rfl) h1' h2', rs_1 (p := (f', n')) (Or.inl rfl) h1' h2']
    refine ⟨rfl, rfl, fun j hj => ?_⟩
    have hj' : j < n' := hj
    refine ag_u (n := n' - 1) (fun j hj => ag' j (by omega)) ?_ j (by omega)
    show (if (4 : Int32) = 4 then -f' (n' - 1) else xb (f' (n' - 1) = 0)) = (if (4 : Int32) = 4 then -f (n' - 1) else xb (f (n' - 1) = 0))
    rw [ag' _ (by omega)]
  · subst z1
    have h1' : 1 ≤ n' := h1
    rw [rs_1 (p := (f, n')) (Or.inr rfl) h1' h2', rs_1 (p := (f', n')) (Or.inr rfl) h1' h2']
    refine ⟨rfl, rfl, fun j hj => ?_⟩
    have hj' : j < n' := hj
    refine ag_u (n := n' - 1) (fun j hj => ag' j (by omega)) ?_ j (by omega)
    show (if (113 : Int32) = 4 then -f' (n' - 1) else xb (f' (n' - 1) = 0)) = (if (113 : Int32) = 4 then -f (n' - 1) else xb (f (n' - 1) = 0))
    rw [ag' _ (by omega)]
  · subst z1
    have h1' : 3 ≤ n' := h1
    rw [rs_3 (p := (f, n')) h1' h2', rs_3 (p := (f', n')) h1' h2']
    refine ⟨rfl, rfl, fun j hj => ?_⟩
    have hj' : j < n' - 2 := hj
    refine ag_u (n := n' - 3) (fun j hj => ag' j (by omega)) ?_ j (by omega)
    show (if f' (n' - 3) = 0 then f' (n' - 1) else f' (n' - 2)) = (if f (n' - 3) = 0 then f (n' - 1) else f (n' - 2))
    rw [ag' _ (by omega), ag' _ (by omega), ag' _ (by omega)]
  all_goals
    subst z1
    exact join _ h1 rfl (rst_j (by decide) (by decide) (by decide) (by decide) (by decide)) (rst_j (by decide) (by decide) (by decide) (by decide) (by decide))
theorem rrn_same {ms ms' : Nat → Int32} (hms : ∀ i, i < 10 → ms' i = ms i) (cnt : Nat) (hO : ∀ j, j < cnt → tau (b 0 j) (b 1 j) (g 7 (2 * j)) (g 7 (2 * j + 1))) : ∀ m i (p p' : stk), i + m ≤ cnt → hgt (b 0) i m p.2 → p'.2 = p.2 → (∀ j, j < p.2 → p'.1 j = p.1 j) →
    (rrn ms (b 0) (b 1) i m p).2 = 1 ∧ (rrn ms' (b 0) (b 1) i m p').1 0 = (rrn ms (b 0) (b 1) i m p).1 0 := by
  intro m
  induction m with
  | zero =>
    intro i p p' hi hg e ag
    have hg' : p.2 = 1 := hg
    exact ⟨hg', ag 0 (by omega)⟩
  | succ m ih =>
    intro i p p' hi hg e ag
    obtain ⟨g1, g2, g3⟩ := id hg
    obtain ⟨r1, r2, r3⟩ := rst_same hms (hO i (by omega)) g1 g2 e ag
    exact ih (i + 1) _ _ (by omega) (by rw [r1]; exact g3) (by rw [r1, r2]) (by rw [r1]; exact r3)
/-- what the class's rule tells is what the model's tells -/
theorem te_same {co ro nk nc nn cnt : Nat} {rs re : Nat → Nat} (hT : kTwo b s g q co ro nk nc nn cnt rs re) {c : Nat} (hc : c < nn) (ms ms' sk f : Nat → Int32) :
    (rrn (tms a b t s nk c ms') (b 0) (b 1) (rs c) (re c - rs c) (f, 0)).1 0 = popV (teR a b t s nk c (rs c) (re c) ms sk) := by
  obtain ⟨h1, h2, h3, ⟨e1, e2, e3, e4, e5, e6⟩, h5, h6, h7, h8, h9, h10⟩ := id hT
  obtain ⟨w1, w2, w3, w4, w5, w6, w7, w8, w9⟩ := id h3
  have wc := w9 c hc
  have hms : ∀ i, i < 10 → tms a b t s nk c ms' i = tms a b t s nk c ms i := by
    intro i hi
    by_cases p : i < 4
    · rw [tms_r p, tms_r p]
    · have w : i = 4 ∨ i = 5 ∨ i = 6 ∨ i = 7 ∨ i = 8 ∨ i = 9 := by omega
      rcases w with w | w | w | w | w | w <;> subst w
      · rw [tms_4, tms_4]
      · rw [tms_5, tms_5]
      · rw [tms_6, tms_6]
      · rw [tms_7, tms_7]
      · rw [tms_8, tms_8]
      · rw [tms_9, tms_9]
  obtain ⟨r1, r2⟩ := rrn_same hms cnt h9 (re c - rs c) (rs c) (sk, 0) (f, 0) (by omega) (h10 c hc) rfl (fun j hj => absurd hj (Nat.not_lt_zero j))
  unfold teR popV
  rw [r2, r1, if_neg (by decide)]
end BOTH
