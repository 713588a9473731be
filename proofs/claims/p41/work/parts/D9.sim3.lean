/-! ===== the law's reckoning: what a rule tells ===== -/
section SIM3
variable {E : xE} {d D : Nat} {Q : xR → Prop} {H X : xH} {ad ro : Nat → Nat} {b a a' : Nat → Nat → Int32} {s t t' : Nat → Int32} {nk nc nn lo hi : Nat} {ru : Nat → Option Nat} {r k c i j m n p co rw' : Nat} {x y v z w : Int32}

/-- the book, in bounds -/
def kBo (b : Nat → Nat → Int32) (s : Nat → Int32) (co rw' nk nn : Nat) : Prop := s 0 = nI co ∧ s 1 = nI rw' ∧ co ≤ 12 ∧ rw' ≤ 12 ∧ nk ≤ 6 ∧ (∀ k, k < nk → ∃ x y z, x < co ∧ y < rw' ∧ z ≤ 30 ∧ b 2 k = nI x ∧ b 3 k = nI y ∧ b 4 k = nI z) ∧ ∀ c, c < nn → ∃ z, 1 ≤ z ∧ z ≤ 4 ∧ b 9 c = nI z
theorem kSt_n (h : kSt a t co rw' nk nn n) : ∀ k, k < nk → ¬ a 0 k < 0 := by
  intro k hk
  obtain ⟨z, z1, z2⟩ := h.1 k hk
  rw [z2, nI_n0 z (by omega)]
  exact id
theorem kSt_xy (h : kSt a t co rw' nk nn n) (hc : c < nn) : (∃ u, u < co ∧ a 3 c = nI u) ∧ ∃ u, u < rw' ∧ a 4 c = nI u := by
  obtain ⟨x, y, l, p, x1, y1, -, -, x2, y2, -⟩ := h.2.1 c hc
  exact ⟨⟨x, x1, x2⟩, y, y1, y2⟩
theorem j_smell (h : jOK ad ro nk nc nn lo hi) (hB : kBo b s co rw' nk nn) (hS : kSt a t co rw' nk nn n) (hc : c < nn) : xcall E xprog (d + 2) 114 [.ref (ad 1), .int (nI c), .int x] (jH ad ro b s nk nc nn ru H a t) Q = Q (.inl (some (.int (smeC a b t s nk c x))), (jH ad ro b s nk nc nn ru H a t)) :=
  f_S_smell h (kSt_n hS) hc hB.1 hB.2.1 hB.2.2.1 hB.2.2.2.1 (kSt_xy hS hc).1 (kSt_xy hS hc).2
theorem j_sm0 (hB : kBo b s co rw' nk nn) (hS : kSt a t co rw' nk nn n) (hc : c < nn) : -1 < smeC a b t s nk c x :=
  sme_b hB.2.2.2.2.1 hB.1 hB.2.1 hB.2.2.1 hB.2.2.2.1 hB.2.2.2.2.2.1 hS (hB.2.2.2.2.2.2 c hc) x
/-- the rules' objects stand -/
def jR (E : xE) (ro : Nat → Nat) (ru : Nat → Option Nat) (nn hi : Nat) (H : xH) : Prop := ∀ c, c < nn → ∃ p l h, ru c = some p ∧ ruH E H l h 4 (5 + 11 * c) 0 p ∧ h ≤ hi ∧ ∀ n, l ≤ n → n < h → ro n = 0
theorem jR_fr (h : jR E ro ru nn hi H) (hx : ∀ n, n < hi → X.1 n = H.1 n) : jR E ro ru nn hi X := by
  intro c hc
  obtain ⟨p, l, q, h1, h2, h3, h4⟩ := h c hc
  exact ⟨p, l, q, h1, ruH_fr h2 (fun a _ ha => hx a (by omega)) (Nat.le_refl _) (Nat.le_refl _), h3, h4⟩
theorem jR_J (h : jR E ro ru nn hi H) (hc : c < nn) : ∃ p l q, ru c = some p ∧ ruH E (jH ad ro b s nk nc nn ru H a t) l q 4 (5 + 11 * c) 0 p := by
  obtain ⟨p, l, q, h1, h2, h3, h4⟩ := h c hc
  refine ⟨p, l, q, h1, ruH_fr h2 (fun n h5 h6 => ?_) (Nat.le_refl _) (Nat.le_refl _)⟩
  show (if ro n = 0 then H.1 n else _) = H.1 n
  rw [if_pos (h4 n h5 h6)]
/-- the first best of m smells -/
def bsL (f : Nat → Int32) : Nat → Nat → Nat
  | 0, z => z
  | m + 1, z => bsL f m (if f m < f z then z else m)
theorem bsL_lt {f : Nat → Int32} : ∀ m z, m ≤ 4 → z < 4 → bsL f m z < 4
  | 0, z, _, hz => hz
  | m + 1, z, hm, hz => by
    show bsL f m _ < 4
    refine bsL_lt m _ (by omega) ?_
    split <;> omega
theorem bsL_is {f : Nat → Int32} (h : ∀ i, -1 < f i) : nI (bsL f 4 0) = tlB f 0 4 0 (-1) := by
  have h0 := h 0; have h1 := h 1; have h2 := h 2; have h3 := h 3
  show nI (bsL f 4 0) = if -1 < f 0 then (if f 0 < f 1 then (if f 1 < f 2 then (if f 2 < f 3 then nI 3 else nI 2) else (if f 1 < f 3 then nI 3 else nI 1)) else (if f 0 < f 2 then (if f 2 < f 3 then nI 3 else nI 2) else (if f 0 < f 3 then nI 3 else nI 0))) else _
  rw [if_pos h0]
  have e : bsL f 4 0 = (fun z => (fun z => (fun z => if f 0 < f z then z else 0) (if f 1 < f z then z else 1)) (if f 2 < f z then z else 2)) (if f 3 < f 0 then 0 else 3) := rfl
  rw [e]
  simp only [Int32.lt_iff_toInt_lt]
  generalize hf0 : (f 0).toInt = g0
  generalize hf1 : (f 1).toInt = g1
  generalize hf2 : (f 2).toInt = g2
  generalize hf3 : (f 3).toInt = g3
  by_cases c1 : g3 < g0 <;> by_cases c2 : g2 < g0 <;> by_cases c3 : g2 < g3 <;> by_cases c4 : g1 < g0 <;> by_cases c5 : g1 < g2 <;> by_cases c6 : g1 < g3 <;> by_cases d1 : g0 < g1 <;> by_cases d2 : g0 < g2 <;> by_cases d3 : g0 < g3 <;> by_cases d4 : g1 < g2 <;> by_cases d5 : g2 < g3 <;> first | omega | (simp only [hf0, hf1, hf2, hf3, c1, c2, c3, c4, c5, c6, d1, d2, d3, d4, d5, if_true, if_false]; done) | (simp [hf0, hf1, hf2, hf3, *]; done) | (exfalso; omega)
end SIM3
