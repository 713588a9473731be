/-! ===== how things stand, and stay ===== -/
section STAND
variable {b a : Nat → Nat → Int32} {s t : Nat → Int32} {co ro nk nc nn n : Nat} {rs re : Nat → Nat}
/-- how things stand: at most n sails of a clipper behind the start -/
def kSt (a : Nat → Nat → Int32) (t : Nat → Int32) (co ro nk nn n : Nat) : Prop :=
  (∀ k, k < nk → ∃ z, z ≤ 20 ∧ a 0 k = nI z) ∧
  (∀ c, c < nn → ∃ x y l p, x < co ∧ y < ro ∧ l ≤ 30 ∧ p ≤ 30 * n ∧ a 3 c = nI x ∧ a 4 c = nI y ∧ a 5 c = nI l ∧ a 7 c = nI p) ∧
  ∃ w f, w ≤ 3 ∧ f ≤ 3 ∧ t 0 = nI w ∧ t 1 = nI f
theorem aroV_b {x y z : Nat} {fx fy : Int32} (hx : x ≤ 100) (hy : y ≤ 100) (hz : z ≤ 30) (f1 : -100 ≤ fx.toInt) (f2 : fx.toInt ≤ 100) (f3 : -100 ≤ fy.toInt) (f4 : fy.toInt ≤ 100) : ∃ v, v ≤ 30 ∧ aroV (nI z) (nI x) (nI y) fx fy = nI v := by
  have ex := nI_i (x := x) (by omega)
  have ey := nI_i (x := y) (by omega)
  have ez := nI_i (x := z) (by omega)
  have dx : (nI x - fx).toInt = x - fx.toInt := by rw [ti_sub (by omega) (by omega), ex]
  have dy : (nI y - fy).toInt = y - fy.toInt := by rw [ti_sub (by omega) (by omega), ey]
  have ax : (xabs (nI x - fx)).toInt = if 0 ≤ (x : Int) - fx.toInt then x - fx.toInt else -(x - fx.toInt) := by rw [xabs_t (by omega), dx]
  have ay : (xabs (nI y - fy)).toInt = if 0 ≤ (y : Int) - fy.toInt then y - fy.toInt else -(y - fy.toInt) := by rw [xabs_t (by omega), dy]
  generalize hA : xabs (nI x - fx) = A at ax
  generalize hB : xabs (nI y - fy) = B at ay
  have bA : 0 ≤ A.toInt ∧ A.toInt ≤ 200 := by rw [ax]; split <;> omega
  have bB : 0 ≤ B.toInt ∧ B.toInt ≤ 200 := by rw [ay]; split <;> omega
  have e1 : (A + B).toInt = A.toInt + B.toInt := ti_add (by omega) (by omega)
  have e2' : (2 : Int32).toInt = 2 := rfl
  have e2 : (2 * (A + B)).toInt = 2 * (A.toInt + B.toInt) := by rw [ti_mul (by rw [e2', e1]; omega) (by rw [e2', e1]; omega), e1, e2']
  have e3 : (nI z - 2 * (A + B)).toInt = z - 2 * (A.toInt + B.toInt) := by rw [ti_sub (by omega) (by omega), e2, ez]
  unfold aroV
  rw [hA, hB]
  by_cases p : 0 < nI z - 2 * (A + B)
  · rw [if_pos p]
    have p' : 0 < (nI z - 2 * (A + B)).toInt := Int32.lt_iff_toInt_lt.mp p
    exact ⟨(nI z - 2 * (A + B)).toInt.toNat, by omega, nI_tn (by omega)⟩
  · rw [if_neg p]
    exact ⟨0, by omega, rfl⟩
theorem aro_b {ca : Nat → Int32} {fx fy : Int32} {nk : Nat} (hk : nk ≤ 6) (hb : ∀ k, k < nk → ∃ x y z, x ≤ 100 ∧ y ≤ 100 ∧ z ≤ 30 ∧ b 2 k = nI x ∧ b 3 k = nI y ∧ b 4 k = nI z) (f1 : -100 ≤ fx.toInt) (f2 : fx.toInt ≤ 100) (f3 : -100 ≤ fy.toInt) (f4 : fy.toInt ≤ 100) : ∀ m i w, i + m = nk → w ≤ 30 * i → ∃ v, v ≤ 180 ∧ aro ca (b 4) (b 2) (b 3) fx fy i m (nI w) = nI v := by
  intro m
  induction m with
  | zero =>
    intro i w hi hw
    exact ⟨w, by omega, rfl⟩
  | succ m ih =>
    intro i w hi hw
    obtain ⟨x, y, z, h1, h2, h3, h4, h5, h6⟩ := hb i (by omega)
    obtain ⟨v, v1, v2⟩ := aroV_b h1 h2 h3 f1 f2 f3 f4
    unfold aro
    rw [h4, h5, h6, v2]
    by_cases p : ca i = 0
    · rw [if_pos p, nI_ad]
      exact ih (i + 1) _ (by omega) (by omega)
    · rw [if_neg p]
      exact ih (i + 1) _ (by omega) (by omega)
theorem eaw_b (d : Int32) : eaw d = 1 ∨ eaw d = -1 ∨ eaw d = 0 := by
  unfold eaw
  repeat' split
  · exact Or.inl rfl
  · exact Or.inr (Or.inl rfl)
  · exact Or.inr (Or.inr rfl)
theorem sow_b (d : Int32) : sow d = 1 ∨ sow d = -1 ∨ sow d = 0 := by
  unfold sow
  repeat' split
  · exact Or.inl rfl
  · exact Or.inr (Or.inl rfl)
  · exact Or.inr (Or.inr rfl)
theorem wf_b {e : Int32} (he : e = 1 ∨ e = -1 ∨ e = 0) {f : Nat} (hf : f ≤ 3) : -3 ≤ (e * nI f).toInt ∧ (e * nI f).toInt ≤ 3 := by
  have w : f = 0 ∨ f = 1 ∨ f = 2 ∨ f = 3 := by omega
  rcases he with p | p | p <;> rcases w with r | r | r | r <;> subst p <;> subst r <;> decide
/-- the aroma of a cell within the bay is 0 to 180 -/
theorem aroC_b {nk co ro nn n : Nat} (hk : nk ≤ 6) (hc : co ≤ 12) (hr : ro ≤ 12) (hb : ∀ k, k < nk → ∃ x y z, x < co ∧ y < ro ∧ z ≤ 30 ∧ b 2 k = nI x ∧ b 3 k = nI y ∧ b 4 k = nI z) (hS : kSt a t co ro nk nn n) {x y : Int32} (x0 : 0 ≤ x.toInt) (x1 : x.toInt ≤ 12) (y0 : 0 ≤ y.toInt) (y1 : y.toInt ≤ 12) : ∃ v, v ≤ 180 ∧ aroC a t b nk x y = nI v := by
  obtain ⟨w, f, w1, f1, w2, f2⟩ := hS.2.2
  have p1 := wf_b (eaw_b (t 0)) f1
  have p2 := wf_b (sow_b (t 0)) f1
  rw [← f2] at p1 p2
  have e1 : (x - eaw (t 0) * t 1).toInt = x.toInt - (eaw (t 0) * t 1).toInt := ti_sub (by omega) (by omega)
  have e2 : (y - sow (t 0) * t 1).toInt = y.toInt - (sow (t 0) * t 1).toInt := ti_sub (by omega) (by omega)
  refine aro_b hk (fun k hk => ?_) (by omega) (by omega) (by omega) (by omega) nk 0 0 (by omega) (by omega)
  obtain ⟨x, y, z, h1, h2, h3, h4⟩ := hb k hk
  exact ⟨x, y, z, by omega, by omega, h3, h4⟩
theorem celC_1 {co ro : Nat} (h0 : s 0 = nI co) (h1 : s 1 = nI ro) (hc : co ≤ 12) (hr : ro ≤ 12) {x y : Int32} (h : ¬ celC s x y = 0) : ∃ u v, u < co ∧ v < ro ∧ x = nI u ∧ y = nI v := by
  unfold celC at h
  rw [xb_0, Decidable.not_not, h0, h1] at h
  obtain ⟨p1, p2, p3, p4⟩ := h
  have e1 : ¬ x.toInt < 0 := fun e => p1 (Int32.lt_iff_toInt_lt.mpr e)
  have e3 : ¬ y.toInt < 0 := fun e => p3 (Int32.lt_iff_toInt_lt.mpr e)
  have e2 := Int32.lt_iff_toInt_lt.mp p2
  have e4 := Int32.lt_iff_toInt_lt.mp p4
  rw [nI_i (by omega)] at e2 e4
  exact ⟨x.toInt.toNat, y.toInt.toNat, by omega, by omega, nI_tn (by omega), nI_tn (by omega)⟩
theorem sme_b {nk co ro nn n : Nat} (hk : nk ≤ 6) (h0 : s 0 = nI co) (h1 : s 1 = nI ro) (hc : co ≤ 12) (hr : ro ≤ 12) (hb : ∀ k, k < nk → ∃ x y z, x < co ∧ y < ro ∧ z ≤ 30 ∧ b 2 k = nI x ∧ b 3 k = nI y ∧ b 4 k = nI z) (hS : kSt a t co ro nk nn n) {c : Nat} (hn : ∃ z, 1 ≤ z ∧ z ≤ 4 ∧ b 9 c = nI z) (x : Int32) : -1 < smeC a b t s nk c x := by
  unfold smeC
  by_cases p : celC s (a 3 c + eaw x) (a 4 c + sow x) = 0
  · rw [if_pos p]; decide
  · rw [if_neg p]
    obtain ⟨u, v, u1, v1, u2, v2⟩ := celC_1 h0 h1 hc hr p
    rw [u2, v2]
    have eu := nI_i (x := u) (by omega)
    have ev := nI_i (x := v) (by omega)
    obtain ⟨w, w1, w2⟩ := aroC_b hk hc hr hb hS (x := nI u) (y := nI v) (by omega) (by omega) (by omega) (by omega)
    obtain ⟨z, z1, z2, z3⟩ := hn
    rw [w2, z3, show (5 : Int32) = nI 5 from rfl, nI_mu]
    refine Int32.lt_iff_toInt_lt.mpr ?_
    rw [show (-1 : Int32).toInt = -1 from rfl]
    split
    · rw [nI_i (by omega)]; omega
    · rw [nI_i (by omega)]; omega
theorem kSt_le {n' : Nat} (h : kSt a t co ro nk nn n) (l : n ≤ n') : kSt a t co ro nk nn n' := by
  refine ⟨h.1, fun c hc => ?_, h.2.2⟩
  obtain ⟨x, y, z, p, h1, h2, h3, h4, h5⟩ := h.2.1 c hc
  exact ⟨x, y, z, p, h1, h2, h3, by omega, h5⟩
theorem kSt_1 {f : Nat → Int32} (h : kSt a t co ro nk nn n) : kSt (upr a 1 f) t co ro nk nn n := h
theorem kSt_2 {f : Nat → Int32} (h : kSt a t co ro nk nn n) : kSt (upr a 2 f) t co ro nk nn n := h
theorem kSt_6 {f : Nat → Int32} (h : kSt a t co ro nk nn n) : kSt (upr a 6 f) t co ro nk nn n := h
theorem kSt_8 {f : Nat → Int32} (h : kSt a t co ro nk nn n) : kSt (upr a 8 f) t co ro nk nn n := h
theorem kSt_t {h' : Int32} (h : kSt a t co ro nk nn n) : kSt a (tri (t 0) (t 1) h') co ro nk nn n := h
theorem kSt_0 {f : Nat → Int32} (h : kSt a t co ro nk nn n) (hf : ∀ k, k < nk → ∃ z, z ≤ 20 ∧ f k = nI z) : kSt (upr a 0 f) t co ro nk nn n := ⟨hf, h.2⟩
theorem kSt_5 {c : Nat} {v : Int32} (h : kSt a t co ro nk nn n) (hv : ∃ l, l ≤ 30 ∧ v = nI l) : kSt (upr a 5 (upd (a 5) c v)) t co ro nk nn n := by
  refine ⟨h.1, fun c' hc' => ?_, h.2.2⟩
  obtain ⟨x, y, l, p, h1, h2, h3, h4, h5, h6, h7, h8⟩ := h.2.1 c' hc'
  show ∃ x y l p, x < co ∧ y < ro ∧ l ≤ 30 ∧ p ≤ 30 * n ∧ a 3 c' = nI x ∧ a 4 c' = nI y ∧ upd (a 5) c v c' = nI l ∧ a 7 c' = nI p
  by_cases e : c' = c
  · subst e
    obtain ⟨l', l1, l2⟩ := hv
    exact ⟨x, y, l', p, h1, h2, l1, h4, h5, h6, by rw [upd_s]; exact l2, h8⟩
  · exact ⟨x, y, l, p, h1, h2, h3, h4, h5, h6, by rw [upd_o e]; exact h7, h8⟩
theorem kSt_7 {c : Nat} {v : Int32} (h : kSt a t co ro nk nn n) (hv : ∃ p, p ≤ 30 * (n + 1) ∧ v = nI p) : kSt (upr a 7 (upd (a 7) c v)) t co ro nk nn (n + 1) := by
  refine ⟨h.1, fun c' hc' => ?_, h.2.2⟩
  obtain ⟨x, y, l, p, h1, h2, h3, h4, h5, h6, h7, h8⟩ := h.2.1 c' hc'
  show ∃ x y l p, x < co ∧ y < ro ∧ l ≤ 30 ∧ p ≤ 30 * (n + 1) ∧ a 3 c' = nI x ∧ a 4 c' = nI y ∧ a 5 c' = nI l ∧ upd (a 7) c v c' = nI p
  by_cases e : c' = c
  · subst e
    obtain ⟨l', l1, l2⟩ := hv
    exact ⟨x, y, l, l', h1, h2, h3, l1, h5, h6, h7, by rw [upd_s]; exact l2⟩
  · exact ⟨x, y, l, p, h1, h2, h3, by omega, h5, h6, h7, by rw [upd_o e]; exact h8⟩
theorem kSt_mov {c : Nat} {v : Int32} (h : kSt a t co ro nk nn n) (h0 : s 0 = nI co) (h1 : s 1 = nI ro) (hc : co ≤ 12) (hr : ro ≤ 12) (hm : ¬ movC s a c v = 0) : kSt (movR a c v) t co ro nk nn n := by
  refine ⟨h.1, fun c' hc' => ?_, h.2.2⟩
  obtain ⟨x, y, l, p, h1', h2, h3, h4, h5, h6, h7, h8⟩ := h.2.1 c' hc'
  show ∃ x y l p, x < co ∧ y < ro ∧ l ≤ 30 ∧ p ≤ 30 * n ∧ upd (a 3) c (a 3 c + eaw (v - v / 4 * 4)) c' = nI x ∧ upd (a 4) c (a 4 c + sow (v - v / 4 * 4)) c' = nI y ∧ a 5 c' = nI l ∧ a 7 c' = nI p
  by_cases e : c' = c
  · subst e
    have hz : ¬ celC s (a 3 c' + eaw (v - v / 4 * 4)) (a 4 c' + sow (v - v / 4 * 4)) = 0 := by
      unfold movC at hm
      by_cases w : v < 0
      · rw [if_pos w] at hm
        exact absurd rfl hm
      · rw [if_neg w] at hm
        exact hm
    obtain ⟨u, w, u1, w1, u2, w2⟩ := celC_1 h0 h1 hc hr hz
    exact ⟨u, w, l, p, u1, w1, h3, h4, by rw [upd_s]; exact u2, by rw [upd_s]; exact w2, h7, h8⟩
  · exact ⟨x, y, l, p, h1', h2, h3, h4, by rw [upd_o e]; exact h5, by rw [upd_o e]; exact h6, h7, h8⟩
theorem lf_pay (l : Nat) (h : l ≤ 30) : ∃ l', l' ≤ 30 ∧ (if 0 < nI l - nI l / 4 - 1 then nI l - nI l / 4 - 1 else 0) = nI l' := by
  have e4 : nI l / 4 = nI (l / 4) := nI_dv (y := 4) (by omega) (by omega) (by omega)
  have e1 := nI_i (x := l) (by omega)
  have e2 := nI_i (x := l / 4) (by omega)
  have e3 : (nI l - nI (l / 4)).toInt = l - (l / 4 : Nat) := by rw [ti_sub (by omega) (by omega), e1, e2]
  have e5 : (1 : Int32).toInt = 1 := rfl
  have e6 : (nI l - nI (l / 4) - 1).toInt = l - (l / 4 : Nat) - 1 := by rw [ti_sub (by rw [e5]; omega) (by rw [e5]; omega), e3, e5]
  rw [e4]
  by_cases p : 0 < nI l - nI (l / 4) - 1
  · rw [if_pos p]
    have p' : 0 < (nI l - nI (l / 4) - 1).toInt := Int32.lt_iff_toInt_lt.mp p
    exact ⟨(nI l - nI (l / 4) - 1).toInt.toNat, by omega, nI_tn (by omega)⟩
  · rw [if_neg p]
    exact ⟨0, by omega, rfl⟩
theorem kSt_pay {c : Nat} (hc : c < nn) (h : kSt a t co ro nk nn n) : kSt (payR a b nc c) t co ro nk nn n := by
  unfold payR
  split
  · exact h
  · obtain ⟨x, y, l, p, h1, h2, h3, h4, h5, h6, h7, h8⟩ := h.2.1 c hc
    refine kSt_8 (kSt_5 h ?_)
    rw [h7]
    exact lf_pay l h3
theorem kSt_win {c : Nat} (hc : c < nn) (hn : n < 1000000) (h : kSt a t co ro nk nn n) : kSt (winR a b c) t co ro nk nn (n + 1) := by
  unfold winR
  split
  · obtain ⟨x, y, l, p, h1, h2, h3, h4, h5, h6, h7, h8⟩ := h.2.1 c hc
    refine kSt_5 (a := upr a 7 (upd (a 7) c (a 7 c + a 5 c))) (kSt_7 h ?_) ⟨0, by omega, rfl⟩
    rw [h7, h8, nI_ad]
    exact ⟨p + l, by omega, rfl⟩
  · exact kSt_le h (by omega)
theorem steC_j {x y : Int32} {j : Nat} (hj : j < nk) (hk : nk ≤ 6) (e : steC a b nk x y = nI j) : a 0 j = 0 := by
  unfold steC at e
  by_cases p : kAt (b 2) (b 3) x y 0 nk = -1
  · rw [if_pos p] at e
    exact absurd e.symm (by rw [nI_m1 (by omega)]; exact id)
  · rw [if_neg p] at e
    by_cases r : a 0 (kAt (b 2) (b 3) x y 0 nk).toNatClampNeg = 0
    · rw [if_pos r] at e
      rw [e, ncl (by omega)] at r
      exact r
    · rw [if_neg r] at e
      exact absurd e.symm (by rw [nI_m1 (by omega)]; exact id)
theorem kSt_tak {c : Nat} (hc : c < nn) (hk : nk ≤ 6) (h : kSt a t co ro nk nn n) : kSt (takC a b nk c) t co ro nk nn n := by
  unfold takC
  split
  · exact h
  split
  · obtain ⟨x, y, l, p, h1, h2, h3, h4, h5, h6, h7, h8⟩ := h.2.1 c hc
    refine kSt_2 (a := upr (upr a 5 _) 0 _) (kSt_0 (kSt_5 h ?_) ?_)
    · rw [h7, show (6 : Int32) = nI 6 from rfl, nI_ad]
      split
      · rename_i w
        have w' := Int32.lt_iff_toInt_lt.mp w
        rw [nI_i (by omega), show (30 : Int32).toInt = 30 from rfl] at w'
        exact ⟨l + 6, by omega, rfl⟩
      · exact ⟨30, by omega, rfl⟩
    · intro k hk
      by_cases e : k = (steC a b nk (a 3 c) (a 4 c)).toNatClampNeg
      · rw [← e, upd_s]
        exact ⟨5, by omega, rfl⟩
      · rw [upd_o e]
        exact h.1 k hk
  · exact h
theorem kSt_mv {c : Nat} {v : Int32} (hc : c < nn) (hn : n < 1000000) (h : kSt a t co ro nk nn n) (h0 : s 0 = nI co) (h1 : s 1 = nI ro) (hco : co ≤ 12) (hro : ro ≤ 12) : kSt (mvR a b s nc c v) t co ro nk nn (n + 1) := by
  unfold mvR
  split
  · exact kSt_le h (by omega)
  · rename_i w
    exact kSt_win hc hn (kSt_pay hc (kSt_mov h h0 h1 hco hro w))
theorem kSt_sa {c : Nat} {p : bst} (hc : c < nn) (hk : nk ≤ 6) (hn : n < 1000000) (h : kSt p.1 t co ro nk nn n) (h0 : s 0 = nI co) (h1 : s 1 = nI ro) (hco : co ≤ 12) (hro : ro ≤ 12) : kSt (saC b t s nk nc rs re c p).1 t co ro nk nn (n + 1) := by
  unfold saC
  split
  · exact kSt_tak hc hk (kSt_le (kSt_6 h) (by omega))
  · exact kSt_tak hc hk (kSt_mv hc hn (kSt_6 (kSt_6 h)) h0 h1 hco hro)
/-- within an hour: who was becalmed as it began is so still -/
def kMid (a : Nat → Nat → Int32) (nk : Nat) : Prop := ∀ k, k < nk → 0 < a 1 k → 0 < a 0 k
theorem kMid_tak {c : Nat} (h : kMid a nk) : kMid (takC a b nk c) nk := by
  unfold takC
  split
  · exact h
  split
  · intro k hk w
    show 0 < upd (a 0) _ 5 k
    by_cases e : k = (steC a b nk (a 3 c) (a 4 c)).toNatClampNeg
    · rw [← e, upd_s]; decide
    · rw [upd_o e]; exact h k hk w
  · exact h
theorem kMid_mv {c : Nat} {v : Int32} (h : kMid a nk) : kMid (mvR a b s nc c v) nk := by
  have p1 : ∀ a : Nat → Nat → Int32, kMid a nk → kMid (payR a b nc c) nk := by
    intro a h
    unfold payR
    split <;> exact h
  have p2 : ∀ a : Nat → Nat → Int32, kMid a nk → kMid (winR a b c) nk := by
    intro a h
    unfold winR
    split <;> exact h
  unfold mvR
  split
  · exact h
  · exact p2 _ (p1 _ h)
theorem kMid_sa {c : Nat} {p : bst} (h : kMid p.1 nk) : kMid (saC b t s nk nc rs re c p).1 nk := by
  unfold saC
  split
  · exact kMid_tak (a := wayR p.1 t c) h
  · exact kMid_tak (kMid_mv (a := wayS (wayR p.1 t c) c) h)
/-- the row of who was becalmed is left alone; the points won are told -/
theorem tak_1 {c : Nat} : takC a b nk c 1 = a 1 ∧ takC a b nk c 7 = a 7 := by
  unfold takC
  split
  · exact ⟨rfl, rfl⟩
  split <;> exact ⟨rfl, rfl⟩
theorem pay_1 {c : Nat} : payR a b nc c 1 = a 1 ∧ payR a b nc c 7 = a 7 := by
  unfold payR
  split <;> exact ⟨rfl, rfl⟩
theorem upd_id {f : Nat → Int32} {c : Nat} : upd f c (f c + 0) = f := by
  funext i
  unfold upd
  split
  · rename_i e; rw [e]; exact Int32.add_zero _
  · rfl
theorem win_1 {c : Nat} : winR a b c 1 = a 1 ∧ winR a b c 7 = upd (a 7) c (a 7 c + winV a b c) := by
  unfold winR winV
  split
  · exact ⟨rfl, rfl⟩
  · exact ⟨rfl, upd_id.symm⟩
theorem mv_1 {c : Nat} {v : Int32} : mvR a b s nc c v 1 = a 1 ∧ mvR a b s nc c v 7 = upd (a 7) c (a 7 c + mvV a b s nc c v) := by
  unfold mvR mvV
  split
  · exact ⟨rfl, upd_id.symm⟩
  · have w := win_1 (a := payR (movR a c v) b nc c) (b := b) (c := c)
    have r := pay_1 (a := movR a c v) (b := b) (nc := nc) (c := c)
    rw [r.1, r.2] at w
    exact w
theorem sa_1 {c : Nat} {p : bst} : (saC b t s nk nc rs re c p).1 1 = p.1 1 ∧ (saC b t s nk nc rs re c p).1 7 = upd (p.1 7) c (p.1 7 c + saV b t s nk nc rs re c p) := by
  unfold saC saV
  by_cases w : wayR p.1 t c 6 c < 10
  · rw [if_pos w, if_pos w]
    have r := tak_1 (a := wayR p.1 t c) (b := b) (nk := nk) (c := c)
    exact ⟨r.1, r.2.trans upd_id.symm⟩
  · rw [if_neg w, if_neg w]
    have r := tak_1 (a := mvR (wayS (wayR p.1 t c) c) b s nc c (popV (saT b t s nk rs re c p))) (b := b) (nk := nk) (c := c)
    have m := mv_1 (a := wayS (wayR p.1 t c) c) (b := b) (s := s) (nc := nc) (c := c) (v := popV (saT b t s nk rs re c p))
    exact ⟨r.1.trans m.1, r.2.trans m.2⟩
theorem kSt_v {c : Nat} (hc : c < nn) (h : kSt a t co ro nk nn n) : ∃ l, l ≤ 30 ∧ winV a b c = nI l := by
  unfold winV
  split
  · obtain ⟨x, y, l, p, h1, h2, h3, h4, h5, h6, h7, h8⟩ := h.2.1 c hc
    exact ⟨l, h3, h7⟩
  · exact ⟨0, by omega, rfl⟩
theorem sa_v {c : Nat} {p : bst} (hc : c < nn) (h : kSt p.1 t co ro nk nn n) (h0 : s 0 = nI co) (h1 : s 1 = nI ro) (hco : co ≤ 12) (hro : ro ≤ 12) : ∃ l, l ≤ 30 ∧ saV b t s nk nc rs re c p = nI l := by
  unfold saV
  split
  · exact ⟨0, by omega, rfl⟩
  · unfold mvV
    split
    · exact ⟨0, by omega, rfl⟩
    · rename_i w
      exact kSt_v hc (kSt_pay hc (kSt_mov (kSt_6 (kSt_6 h)) h0 h1 hco hro w))
theorem sumP_z {f : Nat → Int32} : ∀ m i z w, sumP f i m (z + w) = sumP f i m z + w
  | 0, _, _, _ => rfl
  | m + 1, i, z, w => by
    show sumP f (i + 1) m (z + w + f i) = sumP f (i + 1) m (z + f i) + w
    rw [← sumP_z m (i + 1) (z + f i) w]
    congr 1
    grind
theorem sumP_o {f : Nat → Int32} {c : Nat} {v : Int32} : ∀ m i z, (c < i ∨ i + m ≤ c) → sumP (upd f c v) i m z = sumP f i m z
  | 0, _, _, _ => rfl
  | m + 1, i, z, h => by
    show sumP (upd f c v) (i + 1) m (z + upd f c v i) = sumP f (i + 1) m (z + f i)
    rw [upd_o (by omega), sumP_o m (i + 1) _ (by omega)]
theorem sumP_u {f : Nat → Int32} {c : Nat} {v : Int32} : ∀ m i z, i ≤ c → c < i + m → sumP (upd f c (f c + v)) i m z = sumP f i m z + v
  | 0, _, _, h1, h2 => absurd h2 (by omega)
  | m + 1, i, z, h1, h2 => by
    show sumP (upd f c (f c + v)) (i + 1) m (z + upd f c (f c + v) i) = sumP f (i + 1) m (z + f i) + v
    by_cases e : i = c
    · subst e
      rw [upd_s, sumP_o m (i + 1) _ (by omega), ← Int32.add_assoc, sumP_z]
    · rw [upd_o e, sumP_u m (i + 1) _ (by omega) (by omega)]
end STAND
