/-! ===== the law's reckoning: an hour ===== -/
section SIM6
variable {E : xE} {d D : Nat} {Q : xR → Prop} {H X : xH} {ad ro : Nat → Nat} {b a a' : Nat → Nat → Int32} {s t t' : Nat → Int32} {nk nc nn lo hi : Nat} {ru : Nat → Option Nat} {r k c i j m n p co rw' wp : Nat} {x y v z w : Int32} {j4 j5 j6 j7 j8 : Option Value}

def clR (E : xE) (b : Nat → Nat → Int32) (t s : Nat → Int32) (nk nc c : Nat) (a : Nat → Nat → Int32) : Nat → Nat → Int32 :=
  if wayR a t c 6 c < 10 then takC (wayR a t c) b nk c else takC (mvR (wayS (wayR a t c) c) b s nc c (rvC E (wayS (wayR a t c) c) b t s nk c)) b nk c
def clV (E : xE) (b : Nat → Nat → Int32) (t s : Nat → Int32) (nk nc c : Nat) (a : Nat → Nat → Int32) : Int32 :=
  if wayR a t c 6 c < 10 then 0 else mvV (wayS (wayR a t c) c) b s nc c (rvC E (wayS (wayR a t c) c) b t s nk c)
theorem sp_clip (h : jOK ad ro nk nc nn lo hi) (hB : kBo b s co rw' nk nn) (hS : kSt a t co rw' nk nn n) (hn : n < 1000000) (hc : c < nn) (hR : jR E ro ru nn hi H) (hl : hi ≤ H.2.1) : ∃ X k4 k5 k6 k7 k8, (∀ Q, xr E (d + 5) m_S_pass Q (46, [some (.ref (ad 1)), some (.int z), some (.ref wp), some (.int (nI c)), j4, j5, j6, j7, j8], [], (jH ad ro b s nk nc nn ru H a t)) = xr E (d + 5) m_S_pass Q (37, [some (.ref (ad 1)), some (.int (z + clV E b t s nk nc c a)), some (.ref wp), some (.int (nI (c + 1))), k4, k5, k6, k7, k8], [], (jH ad ro b s nk nc nn ru X (clR E b t s nk nc c a) t))) ∧ (∀ n, n < H.2.1 → X.1 n = H.1 n) ∧ H.2.1 ≤ X.2.1 ∧ X.2.1 ≤ H.2.1 + 1 ∧ X.2.2 ≤ H.2.2 + 10 := by
  have hS1 : kSt (wayR a t c) t co rw' nk nn n := kSt_6 hS
  by_cases g : wayR a t c 6 c < 10
  · obtain ⟨k6, e⟩ := sp_8 (E := E) (d := d) (a := wayR a t c) (t := t) (b := b) (s := s) (ru := ru) (H := H) (wp := wp) (z := z) (y := 0) (j6 := j6) (j7 := j7) (j8 := j8) h hc (kSt_n hS1)
    refine ⟨H, some (.ref (ad (20 + c))), some (.int 0), some (.int k6), j7, j8, fun Q => (sp_1 h hc).trans ((sp_2a h hc g).trans ((e Q).trans ?_)), fun _ _ => rfl, Nat.le_refl _, by omega, by omega⟩
    unfold clR clV
    rw [if_pos g, if_pos g, Int32.add_zero]
    simp only [s_S_pass_424, s_S_pass_427, show nI c + 1 = nI (c + 1) from nI_ad c 1]
  · have hS2 : kSt (wayS (wayR a t c) c) t co rw' nk nn n := kSt_6 hS1
    unfold clR clV
    rw [if_neg g, if_neg g]
    generalize ha2 : wayS (wayR a t c) c = a2 at hS2
    have fr : ∀ n, n < H.2.1 → (xnew H (xarI 10 (msr a2 b t s nk c)) 10).1 n = H.1 n := fun n hn => by rw [xnew_g, if_neg (by omega)]
    generalize hv : rvC E a2 b t s nk c = v
    have base : ∀ Q, xr E (d + 5) m_S_pass Q (46, [some (.ref (ad 1)), some (.int z), some (.ref wp), some (.int (nI c)), j4, j5, j6, j7, j8], [], (jH ad ro b s nk nc nn ru H a t)) = xr E (d + 5) m_S_pass Q (97, [some (.ref (ad 1)), some (.int z), some (.ref wp), some (.int (nI c)), some (.ref (ad (20 + c))), some (.int 0), some (.int v), j7, j8], [], (jH ad ro b s nk nc nn ru (xnew H (xarI 10 (msr a2 b t s nk c)) 10) a2 t)) := fun Q => by
      rw [sp_1 h hc, sp_2b h hc g, ha2, sp_3 h hc hB hS2 hR hl, hv]
    by_cases hm : movC s a2 c v = 0
    · obtain ⟨k7, k8, e⟩ := sp_5n (E := E) (d := d) (a := a2) (t := t) (b := b) (s := s) (ru := ru) (H := xnew H (xarI 10 (msr a2 b t s nk c)) 10) (wp := wp) (z := z) (v := v) (j7 := j7) (j8 := j8) h hc hm
      obtain ⟨k6, f⟩ := sp_8 (E := E) (d := d) (a := a2) (t := t) (b := b) (s := s) (ru := ru) (H := xnew H (xarI 10 (msr a2 b t s nk c)) 10) (wp := wp) (z := z) (y := 0) (j6 := some (.int v)) (j7 := k7) (j8 := k8) h hc (kSt_n hS2)
      refine ⟨xnew H (xarI 10 (msr a2 b t s nk c)) 10, some (.ref (ad (20 + c))), some (.int 0), some (.int k6), k7, k8, fun Q => (base Q).trans ((e Q).trans ((f Q).trans ?_)), fr, Nat.le_succ _, Nat.le_refl _, Nat.le_refl _⟩
      unfold mvR mvV
      rw [if_pos hm, if_pos hm, Int32.add_zero]
      simp only [s_S_pass_424, s_S_pass_427, show nI c + 1 = nI (c + 1) from nI_ad c 1]
    · obtain ⟨k7, k8, e⟩ := sp_5y (E := E) (d := d) (a := a2) (t := t) (b := b) (s := s) (ru := ru) (H := xnew H (xarI 10 (msr a2 b t s nk c)) 10) (wp := wp) (z := z) (v := v) (j7 := j7) (j8 := j8) h hc hm
      have hS3 : kSt (winR (payR (movR a2 c v) b nc c) b c) t co rw' nk nn (n + 1) := kSt_win hc hn (kSt_pay hc (kSt_mov hS2 hB.1 hB.2.1 hB.2.2.1 hB.2.2.2.1 hm))
      obtain ⟨k6, f⟩ := sp_8 (E := E) (d := d) (a := winR (payR (movR a2 c v) b nc c) b c) (t := t) (b := b) (s := s) (ru := ru) (H := xnew H (xarI 10 (msr a2 b t s nk c)) 10) (wp := wp) (z := z + winV (payR (movR a2 c v) b nc c) b c) (y := 1) (j6 := some (.int v)) (j7 := k7) (j8 := k8) h hc (kSt_n hS3)
      refine ⟨xnew H (xarI 10 (msr a2 b t s nk c)) 10, some (.ref (ad (20 + c))), some (.int 1), some (.int k6), k7, k8, fun Q => (base Q).trans ((e Q).trans ((sp_6 h hc).trans ((sp_7 h hc).trans ((f Q).trans ?_)))), fr, Nat.le_succ _, Nat.le_refl _, Nat.le_refl _⟩
      unfold mvR mvV
      rw [if_neg hm, if_neg hm]
      simp only [s_S_pass_424, s_S_pass_427, show nI c + 1 = nI (c + 1) from nI_ad c 1]
theorem kSt_cl (hB : kBo b s co rw' nk nn) (hS : kSt a t co rw' nk nn n) (hn : n < 1000000) (hc : c < nn) : kSt (clR E b t s nk nc c a) t co rw' nk nn (n + 1) := by
  unfold clR
  split
  · exact kSt_le (kSt_tak hc hB.2.2.2.2.1 (kSt_6 hS)) (Nat.le_succ _)
  · exact kSt_tak hc hB.2.2.2.2.1 (kSt_mv hc hn (kSt_6 (kSt_6 hS)) hB.1 hB.2.1 hB.2.2.1 hB.2.2.2.1)
def clI (E : xE) (b : Nat → Nat → Int32) (t s : Nat → Int32) (nk nc : Nat) : Nat → Nat → (Nat → Nat → Int32) → Nat → Nat → Int32
  | _, 0, a => a
  | i, m + 1, a => clI E b t s nk nc (i + 1) m (clR E b t s nk nc i a)
def clW (E : xE) (b : Nat → Nat → Int32) (t s : Nat → Int32) (nk nc : Nat) : Nat → Nat → (Nat → Nat → Int32) → Int32 → Int32
  | _, 0, _, z => z
  | i, m + 1, a, z => clW E b t s nk nc (i + 1) m (clR E b t s nk nc i a) (z + clV E b t s nk nc i a)
theorem l_S_pa (h : jOK ad ro nk nc nn lo hi) (hB : kBo b s co rw' nk nn) : ∀ (m i n : Nat) (z : Int32) (a : Nat → Nat → Int32) (H : xH) (j4 j5 j6 j7 j8 : Option Value), i + m = nn → kSt a t co rw' nk nn n → n + m < 1000000 → jR E ro ru nn hi H → hi ≤ H.2.1 → ∃ X k4 k5 k6 k7 k8, (∀ Q, xr E (d + 5) m_S_pass Q (37, [some (.ref (ad 1)), some (.int z), some (.ref wp), some (.int (nI i)), j4, j5, j6, j7, j8], [], (jH ad ro b s nk nc nn ru H a t)) = xr E (d + 5) m_S_pass Q (430, [some (.ref (ad 1)), some (.int (clW E b t s nk nc i m a z)), some (.ref wp), some (.int (nI nn)), k4, k5, k6, k7, k8], [], (jH ad ro b s nk nc nn ru X (clI E b t s nk nc i m a) t))) ∧ (∀ n, n < H.2.1 → X.1 n = H.1 n) ∧ H.2.1 ≤ X.2.1 ∧ X.2.1 ≤ H.2.1 + m ∧ X.2.2 ≤ H.2.2 + 10 * m
  | 0, i, n, z, a, H, j4, j5, j6, j7, j8, hi', hS, hn, hR, hl => by
    have := h.2.2.1
    refine ⟨H, j4, j5, j6, j7, j8, fun Q => ?_, fun _ _ => rfl, Nat.le_refl _, by omega, by omega⟩
    rw [s_S_pass_37]
    simp only [↓reduceIte, s_S_pass_38, s_S_pass_39, s_S_pass_42, s_S_pass_43, not_false_eq_true, Nat.reduceLT, Nat.reduceAdd, true_and, and_true, if_true, if_false, ite_true, ite_false, xnb_0, xnb_1, xnb_b, xk_v, xk_n, xf_of (j_1 h), xll_10, xlg_10_0, xlg_10_1, xlg_10_2, xlg_10_3, xlg_10_4, xlg_10_5, xlg_10_6, xlg_10_7, xlg_10_8, xln_A (j_4 h), Option.isSome_some, Option.getD_some, nge (show nn ≤ i by omega) (by omega), clI, clW, show i = nn from hi', nge (Nat.le_refl nn) (show nn < 2147483648 by omega)]
  | m + 1, i, n, z, a, H, j4, j5, j6, j7, j8, hi', hS, hn, hR, hl => by
    have := h.2.2.1
    have hc : i < nn := by omega
    obtain ⟨X, k4, k5, k6, k7, k8, e1, e2, e3, e4, e5⟩ := sp_clip (E := E) (d := d) (wp := wp) (z := z) (j4 := j4) (j5 := j5) (j6 := j6) (j7 := j7) (j8 := j8) h hB hS (by omega) hc hR hl
    obtain ⟨Y, l4, l5, l6, l7, l8, f1, f2, f3, f4, f5⟩ := l_S_pa h hB m (i + 1) (n + 1) (z + clV E b t s nk nc i a) (clR E b t s nk nc i a) X k4 k5 k6 k7 k8 (by omega) (kSt_cl hB hS (by omega) hc) (by omega) (jR_fr hR (fun n hn => e2 n (by omega))) (by omega)
    refine ⟨Y, l4, l5, l6, l7, l8, fun Q => ?_, fun n hn => (f2 n (by omega)).trans (e2 n hn), by omega, by omega, by omega⟩
    have s1 : xr E (d + 5) m_S_pass Q (37, [some (.ref (ad 1)), some (.int z), some (.ref wp), some (.int (nI i)), j4, j5, j6, j7, j8], [], (jH ad ro b s nk nc nn ru H a t)) = xr E (d + 5) m_S_pass Q (46, [some (.ref (ad 1)), some (.int z), some (.ref wp), some (.int (nI i)), j4, j5, j6, j7, j8], [], (jH ad ro b s nk nc nn ru H a t)) := by
      rw [s_S_pass_37]
      simp only [↓reduceIte, s_S_pass_38, s_S_pass_39, s_S_pass_42, s_S_pass_43, not_false_eq_true, Nat.reduceLT, Nat.reduceAdd, true_and, and_true, if_true, if_false, ite_true, ite_false, xnb_0, xnb_1, xnb_b, xk_v, xk_n, xf_of (j_1 h), xll_10, xlg_10_0, xlg_10_1, xlg_10_2, xlg_10_3, xlg_10_4, xlg_10_5, xlg_10_6, xlg_10_7, xlg_10_8, xln_A (j_4 h), Option.isSome_some, Option.getD_some, nlt hc (by omega)]
    rw [s1, e1]
    exact f1 Q
end SIM6
