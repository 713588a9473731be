/-! ===== an hour of the class's, an hour of the reckoning's: alike ===== -/
section ALIKE
variable {E : xE} {b a : Nat → Nat → Int32} {s t : Nat → Int32} {co ro nk nc nn n : Nat} {rs re : Nat → Nat}
theorem dcr_g {v f : Nat → Int32} : ∀ m i j, dcr v i m f j = if i ≤ j ∧ j < i + m ∧ 0 < v j then f j - 1 else f j := by
  intro m
  induction m generalizing f with
  | zero => intro i j; exact (if_neg (by omega)).symm
  | succ m ih =>
    intro i j
    show dcr v (i + 1) m (if 0 < v i then upd f i (f i - 1) else f) j = _
    rw [ih]
    by_cases p : j = i
    · subst p
      rw [if_neg (by omega)]
      by_cases w : 0 < v j
      · rw [if_pos w, if_pos ⟨by omega, by omega, w⟩, upd_s]
      · rw [if_neg w, if_neg (fun h => w h.2.2)]
    · have e : (if 0 < v i then upd f i (f i - 1) else f) j = f j := by
        split
        · exact upd_o p
        · rfl
      rw [e]
      by_cases r : i + 1 ≤ j ∧ j < i + 1 + m ∧ 0 < v j
      · rw [if_pos r, if_pos ⟨by omega, by omega, r.2.2⟩]
      · rw [if_neg r, if_neg (fun h => r ⟨by omega, by omega, h.2.2⟩)]
theorem saI_S (hk : nk ≤ 6) (h0 : s 0 = nI co) (h1 : s 1 = nI ro) (hco : co ≤ 12) (hro : ro ≤ 12) : ∀ m i (p : bst) (n : Nat), i + m ≤ nn → kSt p.1 t co ro nk nn n → n + m < 1000000 → kSt (saI b t s nk nc rs re i m p).1 t co ro nk nn (n + m)
  | 0, _, _, _, _, h, _ => h
  | m + 1, i, p, n, hi, h, hn => by
    have := saI_S hk h0 h1 hco hro m (i + 1) (saC b t s nk nc rs re i p) (n + 1) (by omega) (kSt_sa (by omega) hk (by omega) h h0 h1 hco hro) (by omega)
    rw [show n + 1 + m = n + (m + 1) by omega] at this
    exact this
theorem saI_1 : ∀ m i (p : bst), (saI b t s nk nc rs re i m p).1 1 = p.1 1
  | 0, _, _ => rfl
  | m + 1, i, p => (saI_1 m (i + 1) _).trans sa_1.1
theorem saI_M : ∀ m i (p : bst), kMid p.1 nk → kMid (saI b t s nk nc rs re i m p).1 nk
  | 0, _, _, h => h
  | m + 1, i, p, h => saI_M m (i + 1) _ (kMid_sa h)
/-- an hour keeps things in order -/
theorem hr_S {x : bhr} (hk : nk ≤ 6) (h0 : s 0 = nI co) (h1 : s 1 = nI ro) (hco : co ≤ 12) (hro : ro ≤ 12) (hn6 : nn ≤ 6) (hS : kSt x.1.1 x.2 co ro nk nn n) (hn : n < 999990) : kSt (hrC b s nk nc nn rs re x).1.1 (hrC b s nk nc nn rs re x).2 co ro nk nn (n + 6) := by
  have g1 : kSt (upr x.1.1 1 (fil (x.1.1 0) 0 nk (x.1.1 1))) x.2 co ro nk nn n := hS
  have g2 : kSt (phC b x.2 s nk nc nn rs re x.1).1 x.2 co ro nk nn (n + nn) := saI_S hk h0 h1 hco hro nn 0 (_, x.1.2) n (by omega) g1 (by omega)
  have g3 : kMid (phC b x.2 s nk nc nn rs re x.1).1 nk := saI_M nn 0 (_, x.1.2) (fun k hk' w => by
    have w' : 0 < fil (x.1.1 0) 0 nk (x.1.1 1) k := w
    rw [fil_g, if_pos (by omega)] at w'
    exact w')
  have g4 : (phC b x.2 s nk nc nn rs re x.1).1 1 = fil (x.1.1 0) 0 nk (x.1.1 1) := saI_1 nn 0 _
  refine kSt_le (n := n + nn) ?_ (by omega)
  show kSt (upr (phC b x.2 s nk nc nn rs re x.1).1 0 (dcr ((phC b x.2 s nk nc nn rs re x.1).1 1) 0 nk ((phC b x.2 s nk nc nn rs re x.1).1 0))) (tri (x.2 0) (x.2 1) (x.2 2 + 1)) co ro nk nn (n + nn)
  refine kSt_0 (kSt_t g2) (fun k hk' => ?_)
  obtain ⟨z, z1, z2⟩ := g2.1 k hk'
  rw [dcr_g]
  by_cases w : 0 ≤ k ∧ k < 0 + nk ∧ 0 < (phC b x.2 s nk nc nn rs re x.1).1 1 k
  · rw [if_pos w]
    have w2 := g3 k hk' w.2.2
    rw [z2] at w2 ⊢
    have w3 : 1 ≤ z := Decidable.byContradiction fun h => by
      have : z = 0 := by omega
      subst this
      exact absurd w2 (by decide)
    rw [nI_m z w3 (by omega)]
    exact ⟨z - 1, by omega, rfl⟩
  · rw [if_neg w]
    exact ⟨z, z1, z2⟩
theorem hr_SI (hB : kBo b s co ro nk nn) (hn6 : nn ≤ 6) : ∀ m (x : bhr) (n : Nat), kSt x.1.1 x.2 co ro nk nn n → n + 6 * m < 999990 → kSt (hrI b s nk nc nn rs re m x).1.1 (hrI b s nk nc nn rs re m x).2 co ro nk nn (n + 6 * m)
  | 0, _, _, h, _ => h
  | m + 1, x, n, h, hn => by
    have := hr_SI hB hn6 m (hrC b s nk nc nn rs re x) (n + 6) (hr_S hB.2.2.2.2.1 hB.1 hB.2.1 hB.2.2.1 hB.2.2.2.1 hn6 h (by omega)) (by omega)
    rw [show n + 6 + 6 * m = n + 6 * (m + 1) by omega] at this
    exact this
/-- the book's rules are the trees' steps -/
def kRl (E : xE) (b : Nat → Nat → Int32) (nn : Nat) (rs re : Nat → Nat) : Prop := ∀ c, c < nn → re c = rs c + (pfx E 4 (5 + 11 * c) 0).length ∧ ∀ j, j < (pfx E 4 (5 + 11 * c) 0).length → b 0 (rs c + j) = ((pfx E 4 (5 + 11 * c) 0).getD j (0, 0)).1 ∧ b 1 (rs c + j) = ((pfx E 4 (5 + 11 * c) 0).getD j (0, 0)).2
theorem rrn_runL {ms kd nu : Nat → Int32} : ∀ (L : List (Int32 × Int32)) (i : Nat) (p : stk), (∀ j, j < L.length → kd (i + j) = (L.getD j (0, 0)).1 ∧ nu (i + j) = (L.getD j (0, 0)).2) → rrn ms kd nu i L.length p = runL ms L p
  | [], _, _, _ => rfl
  | q :: L, i, p, h => by
    have h0 := h 0 (by simp)
    show rrn ms kd nu (i + 1) L.length (rst ms (kd i) (nu i) p) = runL ms L (rst ms q.1 q.2 p)
    rw [show kd i = q.1 from h0.1, show nu i = q.2 from h0.2]
    refine rrn_runL L (i + 1) _ fun j hj => ?_
    have := h (j + 1) (by simp; omega)
    rw [show i + (j + 1) = i + 1 + j by omega] at this
    exact this
theorem tell_v {c : Nat} (hR : kRl E b nn rs re) (hc : c < nn) (ms sk : Nat → Int32) : popV (teR a b t s nk c (rs c) (re c) ms sk) = rvC E a b t s nk c := by
  obtain ⟨h1, h2⟩ := hR c hc
  unfold teR
  rw [h1, show rs c + (pfx E 4 (5 + 11 * c) 0).length - rs c = (pfx E 4 (5 + 11 * c) 0).length by omega, rrn_runL _ _ _ h2]
  rcases run_pfx (E := E) (tms a b t s nk c ms) 4 (5 + 11 * c) 0 (sk, 0) (by omega) (by show 0 + 4 * 4 < 380; omega) with q | q
  · obtain ⟨q1, q2, -⟩ := q
    unfold popV
    rw [if_neg (by rw [q1]; show ¬ 0 + 1 < 1; omega), q1]
    show (runL _ _ _).1 0 = _
    rw [show (runL (tms a b t s nk c ms) (pfx E 4 (5 + 11 * c) 0) (sk, 0)).1 0 = rvl E (tms a b t s nk c ms) 4 (5 + 11 * c) 0 from q2]
    exact (rvl_congr (msr_tms ms) 4 _ _).symm
  · omega
theorem sa_cl {c : Nat} {p : bst} (hR : kRl E b nn rs re) (hc : c < nn) : (saC b t s nk nc rs re c p).1 = clR E b t s nk nc c p.1 ∧ saV b t s nk nc rs re c p = clV E b t s nk nc c p.1 := by
  unfold saC saV clR clV saT
  rw [tell_v hR hc]
  by_cases g : wayR p.1 t c 6 c < 10
  · simp only [if_pos g]; exact ⟨trivial, trivial⟩
  · simp only [if_neg g]; exact ⟨trivial, trivial⟩
theorem saI_cl (hR : kRl E b nn rs re) : ∀ m i (p : bst) z, i + m ≤ nn → (saI b t s nk nc rs re i m p).1 = clI E b t s nk nc i m p.1 ∧ saW b t s nk nc rs re i m p z = clW E b t s nk nc i m p.1 z
  | 0, _, _, _, _ => ⟨rfl, rfl⟩
  | m + 1, i, p, z, h => by
    obtain ⟨h1, h2⟩ := sa_cl (t := t) (s := s) (nk := nk) (nc := nc) (p := p) hR (show i < nn by omega)
    obtain ⟨h3, h4⟩ := saI_cl hR m (i + 1) (saC b t s nk nc rs re i p) (z + saV b t s nk nc rs re i p) (by omega)
    unfold saI saW clI clW
    rw [h3, h4, h1, h2]
    exact ⟨rfl, rfl⟩
/-- the class's row of what was -/
def a1F (nk : Nat) (a : Nat → Nat → Int32) : Nat → Nat → Int32 := upr a 1 (fil (a 0) 0 nk (a 1))
theorem hr_pa (hR : kRl E b nn rs re) (x : bhr) : (hrC b s nk nc nn rs re x).1.1 = paR E b s nk nc nn x.2 (a1F nk x.1.1) ∧ phV b x.2 s nk nc nn rs re x.1 = paV E b s nk nc nn x.2 (a1F nk x.1.1) := by
  obtain ⟨h1, h2⟩ := saI_cl (t := x.2) (s := s) (nk := nk) (nc := nc) hR nn 0 (upr x.1.1 1 (fil (x.1.1 0) 0 nk (x.1.1 1)), x.1.2) 0 (by omega)
  refine ⟨?_, h2⟩
  show upr (saI b x.2 s nk nc rs re 0 nn (upr x.1.1 1 (fil (x.1.1 0) 0 nk (x.1.1 1)), x.1.2)).1 0 (dcr ((saI b x.2 s nk nc rs re 0 nn (upr x.1.1 1 (fil (x.1.1 0) 0 nk (x.1.1 1)), x.1.2)).1 1) 0 nk ((saI b x.2 s nk nc rs re 0 nn (upr x.1.1 1 (fil (x.1.1 0) 0 nk (x.1.1 1)), x.1.2)).1 0)) = _
  rw [saI_1 nn 0, h1]
  show _ = upr (clI E b x.2 s nk nc 0 nn (a1F nk x.1.1)) 0 (dcr (x.1.1 0) 0 nk (clI E b x.2 s nk nc 0 nn (a1F nk x.1.1) 0))
  rw [dcr_congr (g' := x.1.1 0) nk 0 _ fun k k1 k2 => (show upr x.1.1 1 (fil (x.1.1 0) 0 nk (x.1.1 1)) 1 k = x.1.1 0 k by rw [jup_s]; exact (fil_in nk 0 _ k).1 ⟨k1, k2⟩)]
  rfl
end ALIKE
section ALIKE2
variable {E : xE} {d D : Nat} {Q : xR → Prop} {H X : xH} {ad ro : Nat → Nat} {b a a' : Nat → Nat → Int32} {s t t' : Nat → Int32} {nk nc nn lo hi : Nat} {ru : Nat → Option Nat} {r k c i j m n p co rw' wp : Nat} {rs re : Nat → Nat}
/-- an hour of the reckoning's is the class's -/
theorem c_S_pass {x : bhr} (hR : kRl E b nn rs re) (h : jOK ad ro nk nc nn lo hi) (hB : kBo b s co rw' nk nn) (hS : kSt x.1.1 x.2 co rw' nk nn n) (hn : n < 999990) (hJ : jR E ro ru nn hi H) (hl : hi ≤ H.2.1) : ∃ X, (∀ Q, xcall E xprog (d + 6) 117 [.ref (ad 1)] (jH ad ro b s nk nc nn ru H x.1.1 x.2) Q = Q (.inl (some (.int (phV b x.2 s nk nc nn rs re x.1))), (jH ad ro b s nk nc nn ru X (hrC b s nk nc nn rs re x).1.1 (hrC b s nk nc nn rs re x).2))) ∧ (∀ n, n < H.2.1 → X.1 n = H.1 n) ∧ H.2.1 ≤ X.2.1 ∧ X.2.1 ≤ H.2.1 + 7 ∧ X.2.2 ≤ H.2.2 + 70 := by
  have hn6 := h.2.2.1
  obtain ⟨X, e1, e2, e3, e4, e5⟩ := f_S_pass (E := E) (d := d) (a := a1F nk x.1.1) (t := x.2) h hB (show kSt (a1F nk x.1.1) x.2 co rw' nk nn n from hS) (by omega) hJ hl
  obtain ⟨p1, p2⟩ := hr_pa (s := s) (nk := nk) (nc := nc) hR x
  refine ⟨X, fun Q => ?_, e2, e3, e4, e5⟩
  have e := e1 Q
  rw [← p1, ← p2] at e
  rw [show (jH ad ro b s nk nc nn ru H (a1F nk x.1.1) x.2) = (jH ad ro b s nk nc nn ru H x.1.1 x.2) from j_row1] at e
  exact e
theorem jR_up (h : jR E ro ru nn hi H) (hx : ∀ n, n < H.2.1 → X.1 n = H.1 n) (hl : hi ≤ H.2.1) : jR E ro ru nn hi X := jR_fr h fun n hn => hx n (by omega)
/-- hours -/
theorem l_S_be (hR : kRl E b nn rs re) (h : jOK ad ro nk nc nn lo hi) (hB : kBo b s co rw' nk nn) {hh : Nat} (hh6 : hh ≤ 100) : ∀ (m i n : Nat) (z : Int32) (x : bhr) (H : xH), i + m = hh → kSt x.1.1 x.2 co rw' nk nn n → n + 6 * m < 999990 → jR E ro ru nn hi H → hi ≤ H.2.1 → ∃ X, (∀ Q, xr E (d + 6) m_S_behind Q (4, [some (.ref (ad 1)), some (.int (nI hh)), some (.int z), some (.int (nI i))], [], (jH ad ro b s nk nc nn ru H x.1.1 x.2)) = Q (.inl (some (.int (hrV b s nk nc nn rs re m x z))), (jH ad ro b s nk nc nn ru X (hrI b s nk nc nn rs re m x).1.1 (hrI b s nk nc nn rs re m x).2))) ∧ (∀ n, n < H.2.1 → X.1 n = H.1 n) ∧ H.2.1 ≤ X.2.1 ∧ X.2.1 ≤ H.2.1 + 7 * m ∧ X.2.2 ≤ H.2.2 + 70 * m
  | 0, i, n, z, x, H, hi', hS, hn, hJ, hl => by
    refine ⟨H, fun Q => ?_, fun _ _ => rfl, Nat.le_refl _, by omega, by omega⟩
    rw [s_S_behind_4]
    simp only [↓reduceIte, s_S_behind_5, s_S_behind_6, s_S_behind_22, s_S_behind_23, not_false_eq_true, Nat.reduceLT, Nat.reduceAdd, true_and, and_true, if_true, if_false, ite_true, ite_false, xnb_0, xnb_1, xnb_b, xk_v, xk_n, nge (show hh ≤ i by omega) (show i < 2147483648 by omega), hrV, hrI]
  | m + 1, i, n, z, x, H, hi', hS, hn, hJ, hl => by
    obtain ⟨X, e1, e2, e3, e4, e5⟩ := c_S_pass (E := E) (d := d) hR h hB hS (by omega) hJ hl
    obtain ⟨Y, f1, f2, f3, f4, f5⟩ := l_S_be hR h hB hh6 m (i + 1) (n + 6) (z + phV b x.2 s nk nc nn rs re x.1) (hrC b s nk nc nn rs re x) X (by omega) (hr_S hB.2.2.2.2.1 hB.1 hB.2.1 hB.2.2.1 hB.2.2.2.1 h.2.2.1 hS (by omega)) (by omega) (jR_up hJ e2 hl) (by omega)
    refine ⟨Y, fun Q => ?_, fun n hn => (f2 n (by omega)).trans (e2 n hn), by omega, by omega, by omega⟩
    rw [s_S_behind_4]
    simp only [↓reduceIte, s_S_behind_5, s_S_behind_6, s_S_behind_9, s_S_behind_10, s_S_behind_11, s_S_behind_14, s_S_behind_15, s_S_behind_16, s_S_behind_19, not_false_eq_true, Nat.reduceLT, Nat.reduceAdd, true_and, and_true, if_true, if_false, ite_true, ite_false, xnb_0, xnb_1, xnb_b, xk_v, xk_n, xc_of (j_1 h), nlt (show i < hh by omega) (show hh < 2147483648 by omega), e1, show nI i + 1 = nI (i + 1) from nI_ad i 1]
    exact f1 Q
end ALIKE2
