/-! ===== the law's reckoning: an hour, hours ===== -/
section SIM7
variable {E : xE} {d D : Nat} {Q : xR → Prop} {H X : xH} {ad ro : Nat → Nat} {b a a' : Nat → Nat → Int32} {s t t' : Nat → Int32} {nk nc nn lo hi : Nat} {ru : Nat → Option Nat} {r k c i j m n p co rw' wp : Nat} {x y v z w : Int32} {j4 j5 j6 j7 j8 : Option Value} {g : Nat → Int32}

theorem dcr_congr {g g' : Nat → Int32} : ∀ m i f, (∀ k, i ≤ k → k < i + m → g k = g' k) → dcr g i m f = dcr g' i m f
  | 0, _, _, _ => rfl
  | m + 1, i, f, h => by
    unfold dcr
    rw [h i (Nat.le_refl _) (by omega), dcr_congr m (i + 1) _ fun k h1 h2 => h k (by omega) (by omega)]
theorem jup_2 {f f' : Nat → Int32} : upr (upr a r f) r f' = upr a r f' := by
  funext i
  unfold upr
  split <;> rfl
theorem jup_id : upr a r (a r) = a := by
  funext i
  unfold upr
  split
  · next e => rw [e]
  · rfl
theorem fil_in {g : Nat → Int32} : ∀ m i (f : Nat → Int32) k, (i ≤ k ∧ k < i + m → fil g i m f k = g k) ∧ (¬ (i ≤ k ∧ k < i + m) → fil g i m f k = f k)
  | 0, i, f, k => ⟨fun h => absurd h (by omega), fun _ => rfl⟩
  | m + 1, i, f, k => by
    obtain ⟨h1, h2⟩ := fil_in (g := g) m (i + 1) (upd f i (g i)) k
    show (_ → fil g (i + 1) m (upd f i (g i)) k = g k) ∧ (_ → fil g (i + 1) m (upd f i (g i)) k = f k)
    by_cases e : k = i
    · subst e
      refine ⟨fun _ => ?_, fun h => absurd ⟨Nat.le_refl _, by omega⟩ h⟩
      rw [h2 (by omega), upd_s]
    · refine ⟨fun h => h1 (by omega), fun h => ?_⟩
      rw [h2 (by omega), upd_o e]
/-- what was becalmed is written down -/
theorem l_S_was (h : jOK ad ro nk nc nn lo hi) (hl : hi ≤ H.2.1) : ∀ (m i : Nat) (f : Nat → Int32), i + m = nk → xr E (d + 5) m_S_pass Q (12, [some (.ref (ad 1)), some (.int 0), some (.ref H.2.1), some (.int (nI i)), none, none, none, none, none], [], (jH ad ro b s nk nc nn ru (xnew H (xarI nk f) nk) a t)) = xr E (d + 5) m_S_pass Q (37, [some (.ref (ad 1)), some (.int 0), some (.ref H.2.1), some (.int (nI 0)), none, none, none, none, none], [], (jH ad ro b s nk nc nn ru (xnew H (xarI nk (fil (a 0) i m f)) nk) a t))
  | 0, i, f, hi' => by
    have := h.1
    rw [s_S_pass_12]
    simp only [↓reduceIte, s_S_pass_13, s_S_pass_14, s_S_pass_15, s_S_pass_35, s_S_pass_36, not_false_eq_true, Nat.reduceLT, Nat.reduceAdd, true_and, and_true, if_true, if_false, ite_true, ite_false, xnb_0, xnb_1, xnb_b, xk_v, xk_n, xln_I (j_nl h hl), Option.isSome_some, Option.getD_some, nge (show nk ≤ i by omega) (by omega), fil]
    rfl
  | m + 1, i, f, hi' => by
    have := h.1
    have hk : i < nk := by omega
    have ih := l_S_was h hl m (i + 1) (upd f i (a 0 i)) (by omega)
    rw [s_S_pass_12]
    simp only [↓reduceIte, s_S_pass_13, s_S_pass_14, s_S_pass_15, s_S_pass_18, s_S_pass_19, s_S_pass_20, s_S_pass_21, s_S_pass_24, s_S_pass_25, s_S_pass_26, s_S_pass_27, s_S_pass_28, s_S_pass_29, s_S_pass_32, not_false_eq_true, Nat.reduceLT, Nat.reduceAdd, true_and, and_true, if_true, if_false, ite_true, ite_false, xnb_0, xnb_1, xnb_b, xk_v, xk_n, xf_of (j_1 h), xll_10, xlg_10_0, xlg_10_1, xlg_10_2, xlg_10_3, xlg_10_4, xlg_10_5, xlg_10_6, xlg_10_7, xlg_10_8, xln_I (j_nl h hl), Option.isSome_some, Option.getD_some, nlt hk (by omega), (xA_of (j_2 h)).1, (xA_of (j_2 h)).2.1, nvp hk (by omega), ncl (show i < 2147483648 by omega), if_pos hk, xrf_s, xIl_of (j_k h hk), xIf_of (j_k h hk), ic_3, v5_3, kf_3, j_nl2 h hl, j_nl3 h hl, j_ns h hl, show nI i + 1 = nI (i + 1) from nI_ad i 1]
    exact ih
/-- the becalmed get one less -/
theorem l_S_dec (h : jOK ad ro nk nc nn lo hi) (hw : H.1 wp = xarI nk g) (hl : hi ≤ wp) : ∀ (m i : Nat) (a : Nat → Nat → Int32), i + m = nk → xr E (d + 5) m_S_pass Q (432, [some (.ref (ad 1)), some (.int z), some (.ref wp), some (.int (nI i)), j4, j5, j6, j7, j8], [], (jH ad ro b s nk nc nn ru H a t)) = Q (.inl (some (.int z)), (jH ad ro b s nk nc nn ru H (upr a 0 (dcr g i m (a 0))) (phT t)))
  | 0, i, a, hi' => by
    have := h.1
    have hw2 : ∀ a, (jH ad ro b s nk nc nn ru H a t).1 wp = xarI nk g := fun a => (j_out h hl).trans hw
    rw [s_S_pass_432]
    have e := jw_s (H := H) (a := a) (t := t) (b := b) (s := s) (ru := ru) (t' := phT t) h
    simp only [↓reduceIte, s_S_pass_433, s_S_pass_434, s_S_pass_435, s_S_pass_462, s_S_pass_463, s_S_pass_464, s_S_pass_467, s_S_pass_468, s_S_pass_469, s_S_pass_472, s_S_pass_473, not_false_eq_true, Nat.reduceLT, Nat.reduceAdd, true_and, and_true, if_true, if_false, ite_true, ite_false, xnb_0, xnb_1, xnb_b, xk_v, xk_n, xf_of (j_1 h), xll_10, xlg_10_0, xlg_10_1, xlg_10_2, xlg_10_3, xlg_10_4, xlg_10_5, xlg_10_6, xlg_10_7, xlg_10_8, xls_10_0, xls_10_1, xls_10_2, xls_10_3, xls_10_4, xls_10_5, xls_10_6, xls_10_7, xls_10_8, xln_I (hw2 a), Option.isSome_some, Option.getD_some, nge (show nk ≤ i by omega) (by omega), dcr]
    rw [jup_id]
    exact congrArg (fun Z => Q (.inl (some (.int z)), Z)) e
  | m + 1, i, a, hi' => by
    have := h.1
    have hk : i < nk := by omega
    have hw2 : ∀ a, (jH ad ro b s nk nc nn ru H a t).1 wp = xarI nk g := fun a => (j_out h hl).trans hw
    rw [s_S_pass_432]
    by_cases e : 0 < g i
    · have ih := l_S_dec h hw hl m (i + 1) (upr a 0 (upd (a 0) i (a 0 i - 1))) (by omega)
      simp only [↓reduceIte, s_S_pass_433, s_S_pass_434, s_S_pass_435, s_S_pass_438, s_S_pass_439, s_S_pass_440, s_S_pass_441, s_S_pass_444, s_S_pass_445, s_S_pass_448, s_S_pass_449, s_S_pass_450, s_S_pass_451, s_S_pass_452, s_S_pass_453, s_S_pass_454, s_S_pass_455, s_S_pass_456, s_S_pass_459, not_false_eq_true, Nat.reduceLT, Nat.reduceAdd, true_and, and_true, if_true, if_false, ite_true, ite_false, xnb_0, xnb_1, xnb_b, xk_v, xk_n, xf_of (j_1 h), xll_10, xlg_10_0, xlg_10_1, xlg_10_2, xlg_10_3, xlg_10_4, xlg_10_5, xlg_10_6, xlg_10_7, xlg_10_8, xln_I (hw2 a), Option.isSome_some, Option.getD_some, nlt hk (by omega), xIl_of (hw2 a), xIf_of (hw2 a), (xA_of (j_2 h)).1, (xA_of (j_2 h)).2.1, nvp hk (by omega), ncl (show i < 2147483648 by omega), if_pos hk, xrf_s, xIl_of (j_k h hk), xIf_of (j_k h hk), ic_3, v5_3, kf_3, eq_true e, jw_k (j := 3) (j0 := 0) h hk (Or.inl ⟨rfl, rfl⟩), show nI i + 1 = nI (i + 1) from nI_ad i 1, dcr, if_pos e]
      refine ih.trans ?_
      rw [jup_2, jup_s]
    · have ih := l_S_dec h hw hl m (i + 1) a (by omega)
      simp only [↓reduceIte, s_S_pass_433, s_S_pass_434, s_S_pass_435, s_S_pass_438, s_S_pass_439, s_S_pass_440, s_S_pass_441, s_S_pass_444, s_S_pass_445, s_S_pass_448, s_S_pass_449, s_S_pass_450, s_S_pass_451, s_S_pass_452, s_S_pass_453, s_S_pass_454, s_S_pass_455, s_S_pass_456, s_S_pass_459, not_false_eq_true, Nat.reduceLT, Nat.reduceAdd, true_and, and_true, if_true, if_false, ite_true, ite_false, xnb_0, xnb_1, xnb_b, xk_v, xk_n, xf_of (j_1 h), xll_10, xlg_10_0, xlg_10_1, xlg_10_2, xlg_10_3, xlg_10_4, xlg_10_5, xlg_10_6, xlg_10_7, xlg_10_8, xln_I (hw2 a), Option.isSome_some, Option.getD_some, nlt hk (by omega), xIl_of (hw2 a), xIf_of (hw2 a), nvp hk (by omega), ncl (show i < 2147483648 by omega), eq_false e, show nI i + 1 = nI (i + 1) from nI_ad i 1, ih, dcr, if_neg e]
/-- the class's row of what was is none of the reckoning's -/
theorem j_row1 {f : Nat → Int32} : (jH ad ro b s nk nc nn ru H (upr a 1 f) t) = (jH ad ro b s nk nc nn ru H a t) := by
  refine Prod.ext (funext fun n => ?_) rfl
  show (if ro n = 0 then H.1 n else jC ad b s nk nc nn ru (upr a 1 f) t (ro n)) = if ro n = 0 then H.1 n else jC ad b s nk nc nn ru a t (ro n)
  have hcf : ∀ c, cf b (upr a 1 f) c = cf b a c := fun c => by
    funext i
    unfold cf
    by_cases q : i < 3
    · rcases (show i = 0 ∨ i = 1 ∨ i = 2 by omega) with rfl | rfl | rfl <;> rfl
    · rw [jup_o (by omega)]
  have hkf : ∀ k, kf b (upr a 1 f) k = kf b a k := fun k => rfl
  unfold jC
  simp only [hcf, hkf]
theorem kSt_clI (hB : kBo b s co rw' nk nn) : ∀ (m i n : Nat) (a : Nat → Nat → Int32), i + m ≤ nn → kSt a t co rw' nk nn n → n + m < 1000000 → kSt (clI E b t s nk nc i m a) t co rw' nk nn (n + m)
  | 0, _, _, _, _, hS, _ => hS
  | m + 1, i, n, a, hi', hS, hn => by
    have := kSt_clI hB m (i + 1) (n + 1) (clR E b t s nk nc i a) (by omega) (kSt_cl hB hS (by omega) (by omega)) (by omega)
    rw [show n + (m + 1) = n + 1 + m by omega]
    exact this
/-- an hour: how all stands then, and what is won -/
def paR (E : xE) (b : Nat → Nat → Int32) (s : Nat → Int32) (nk nc nn : Nat) (t : Nat → Int32) (a : Nat → Nat → Int32) : Nat → Nat → Int32 := upr (clI E b t s nk nc 0 nn a) 0 (dcr (a 0) 0 nk (clI E b t s nk nc 0 nn a 0))
def paV (E : xE) (b : Nat → Nat → Int32) (s : Nat → Int32) (nk nc nn : Nat) (t : Nat → Int32) (a : Nat → Nat → Int32) : Int32 := clW E b t s nk nc 0 nn a 0
theorem f_S_pass (h : jOK ad ro nk nc nn lo hi) (hB : kBo b s co rw' nk nn) (hS : kSt a t co rw' nk nn n) (hn : n + nn < 1000000) (hR : jR E ro ru nn hi H) (hl : hi ≤ H.2.1) : ∃ X, (∀ Q, xcall E xprog (d + 6) 117 [.ref (ad 1)] (jH ad ro b s nk nc nn ru H a t) Q = Q (.inl (some (.int (paV E b s nk nc nn t a))), (jH ad ro b s nk nc nn ru X (paR E b s nk nc nn t a) (phT t)))) ∧ (∀ n, n < H.2.1 → X.1 n = H.1 n) ∧ H.2.1 ≤ X.2.1 ∧ X.2.1 ≤ H.2.1 + 7 ∧ X.2.2 ≤ H.2.2 + 70 := by
  have hnk := h.1
  have hnn := h.2.2.1
  have f0 : ∀ n, n < H.2.1 → (xnew H (xarI nk (fil (a 0) 0 nk (fun _ => 0))) nk).1 n = H.1 n := fun n hn => by rw [xnew_g, if_neg (by omega)]
  obtain ⟨X, k4, k5, k6, k7, k8, e1, e2, e3, e4, e5⟩ := l_S_pa (E := E) (d := d) (wp := H.2.1) h hB nn 0 n 0 a (xnew H (xarI nk (fil (a 0) 0 nk (fun _ => 0))) nk) none none none none none (by omega) hS hn (jR_fr hR fun n hn => f0 n (by omega)) (Nat.le_succ_of_le hl)
  have hw : X.1 H.2.1 = xarI nk (fil (a 0) 0 nk (fun _ => 0)) := (e2 H.2.1 (Nat.lt_succ_self _)).trans (if_pos rfl)
  have e3' : H.2.1 + 1 ≤ X.2.1 := e3
  have e4' : X.2.1 ≤ H.2.1 + 1 + nn := e4
  have e5' : X.2.2 ≤ H.2.2 + nk + 10 * nn := e5
  have hwas := fun (Q : xR → Prop) => l_S_was (E := E) (d := d) (Q := Q) (a := a) (t := t) (b := b) (s := s) (ru := ru) (H := H) h hl nk 0 (fun _ => 0) (by omega)
  refine ⟨X, fun Q => ?_, fun n hn => (e2 n (Nat.lt_succ_of_lt hn)).trans (f0 n hn), by omega, by omega, by omega⟩
  have hd := l_S_dec (E := E) (d := d) (Q := Q) (t := t) (b := b) (s := s) (ru := ru) (H := X) (wp := H.2.1) (z := paV E b s nk nc nn t a) (j4 := k4) (j5 := k5) (j6 := k6) (j7 := k7) (j8 := k8) h hw hl nk 0 (clI E b t s nk nc 0 nn a) (by omega)
  rw [dcr_congr (g' := a 0) nk 0 _ fun k h1 h2 => (fil_in nk 0 (fun _ => 0) k).1 ⟨h1, h2⟩] at hd
  rw [e_S_pass]
  refine Eq.trans (b := xr E (d + 5) m_S_pass Q (12, [some (.ref (ad 1)), some (.int 0), some (.ref H.2.1), some (.int (nI 0)), none, none, none, none, none], [], (jH ad ro b s nk nc nn ru (xnew H (xarI nk (fun _ => 0)) nk) a t))) ?_ ((hwas Q).trans ((e1 Q).trans (Eq.trans ?_ hd)))
  · simp only [s_S_pass_0, s_S_pass_1, s_S_pass_2, s_S_pass_3, s_S_pass_6, s_S_pass_7, s_S_pass_9, s_S_pass_10, s_S_pass_11, not_false_eq_true, Nat.reduceLT, Nat.reduceAdd, true_and, and_true, if_true, if_false, ite_true, ite_false, xnb_0, xnb_1, xnb_b, xk_v, xk_n, xf_of (j_1 h), xll_10, xlg_10_0, xlg_10_1, xlg_10_2, xlg_10_3, xlg_10_4, xlg_10_5, xlg_10_6, xlg_10_7, xlg_10_8, xln_A (j_2 h), Option.isSome_some, Option.getD_some, nI_n0 nk (by omega), ncl (show nk < 2147483648 by omega), show (nk * 4 ≤ 536870912) = True from eq_true (by omega), j_21, j_new h hl]
    rfl
  · simp only [s_S_pass_430, s_S_pass_431, not_false_eq_true, Nat.reduceLT, Nat.reduceAdd, true_and, and_true, if_true, if_false, ite_true, ite_false, xnb_0, xnb_1, xnb_b, xk_v, xk_n]
    rfl
/-- hours -/
def bhI (E : xE) (b : Nat → Nat → Int32) (s : Nat → Int32) (nk nc nn : Nat) : Nat → (Nat → Nat → Int32) → (Nat → Int32) → (Nat → Nat → Int32)
  | 0, a, _ => a
  | m + 1, a, t => bhI E b s nk nc nn m (paR E b s nk nc nn t a) (phT t)
def bhT : Nat → (Nat → Int32) → (Nat → Int32)
  | 0, t => t
  | m + 1, t => bhT m (phT t)
def bhV (E : xE) (b : Nat → Nat → Int32) (s : Nat → Int32) (nk nc nn : Nat) : Nat → (Nat → Nat → Int32) → (Nat → Int32) → Int32 → Int32
  | 0, _, _, z => z
  | m + 1, a, t, z => bhV E b s nk nc nn m (paR E b s nk nc nn t a) (phT t) (z + paV E b s nk nc nn t a)
theorem kSt_pa (hB : kBo b s co rw' nk nn) (hS : kSt a t co rw' nk nn n) (hn : n + nn < 1000000) (hg : ∀ k, k < nk → ∃ z, z ≤ 20 ∧ dcr (a 0) 0 nk (clI E b t s nk nc 0 nn a 0) k = nI z) : kSt (paR E b s nk nc nn t a) (phT t) co rw' nk nn (n + nn) :=
  kSt_t (kSt_0 (kSt_clI hB nn 0 n a (by omega) hS hn) hg)
end SIM7
