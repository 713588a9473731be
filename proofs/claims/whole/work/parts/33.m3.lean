/-! ===== the model: smelling, measuring ===== -/
section MSMELL
variable {E : xE} {d : Nat} {Q : xR → Prop} {H : xH} {K : Nat} {g : Nat → Nat → Int32} {q : Nat → Int32} {th sz ea : Int32} {tp kp wc sk : Nat → Int32} {b a : Nat → Nat → Int32} {s t : Nat → Int32}
/-- the clippers of the two books -/
def kRc (b : Nat → Nat → Int32) (s : Nat → Int32) (g : Nat → Nat → Int32) (q : Nat → Int32) (nn : Nat) (rs re : Nat → Nat) : Prop :=
  q 4 = nI nn ∧ nn ≤ 6 ∧ ∀ c, c < nn → g 3 c = b 7 c ∧ g 4 c = b 8 c ∧ g 5 c = b 9 c ∧ (∃ z, 1 ≤ z ∧ z ≤ 4 ∧ b 9 c = nI z) ∧ g 6 c = nI (rs c) ∧ g 6 (c + 1) = nI (re c)
/-- the bay's numbers are what they may be -/
def bOK (a : Nat → Nat → Int32) (nk : Nat) : Prop := ∀ k, k < nk → ¬ a 0 k < 0
theorem h_M_isCell (hM : kM H K g q) (hK : mK K) (nk : Nat) (hR : kRk b s g q nk) (nw : Nat → Int32) (x y : Int32) : xcall E xprog (d + 2) 167 [.ref 63, .int x, .int y] (mH H K th sz ea tp nw kp wc sk) Q = Q (.inl (some (.int (celC s x y))), (mH H K th sz ea tp nw kp wc sk)) := by
  obtain ⟨r0, r1, r2, r3, co, ro, c1, c2, c3, c4, c5, c6, r4⟩ := id hR
  exact g_M_isCell hM hK r0 r1 (by rw [c5]; exact nI_lt (a := 0) (by omega) (by omega)) (by rw [c6]; exact nI_lt (a := 0) (by omega) (by omega)) x y
theorem h_M_aroma (hM : kM H K g q) (hK : mK K) (nk nn : Nat) (hR : kRk b s g q nk) (ha : bOK a nk) (x y : Int32) :
    xcall E xprog (d + 2) 168 [.ref 63, .int x, .int y] (mH H K th sz ea tp (nwO nn a t) kp wc sk) Q = Q (.inl (some (.int (aroC a t b nk x y))), mH H K th sz ea tp (nwO nn a t) kp wc sk) := by
  have r3 : nk ≤ 6 := hR.2.2.2.1
  exact f_M_aroma hM hK nk hR a t (fun k hk => ⟨nw_k0 (by omega), ha k hk⟩) nw_1 nw_2 x y
theorem mn_c (x y : Int32) : (if x < y then x else y) = (if y < x then y else x) := by
  by_cases p : x < y
  · rw [if_pos p, if_neg (fun h => Int32.lt_irrefl (Int32.lt_trans p h))]
  · rw [if_neg p]
    by_cases r : y < x
    · rw [if_pos r]
    · rw [if_neg r]
      exact Int32.le_antisymm (Int32.not_lt.mp p) (Int32.not_lt.mp r)
theorem f_M_smell (hM : kM H K g q) (hK : mK K) (nk nn : Nat) (rs re : Nat → Nat) (hR : kRk b s g q nk) (hC : kRc b s g q nn rs re) (ha : bOK a nk) (c : Nat) (hc : c < nn) (x : Int32) :
    xcall E xprog (d + 3) 169 [.ref 63, .int (nI c), .int x] (mH H K th sz ea tp (nwO nn a t) kp wc sk) Q = Q (.inl (some (.int (smeC a b t s nk c x))), mH H K th sz ea tp (nwO nn a t) kp wc sk) := by
  obtain ⟨k1, k2, k3⟩ := id hC
  have kc := k3 c hc
  rw [e_M_smell]
  simp only [s_M_smell_0, s_M_smell_1, s_M_smell_2, s_M_smell_3, s_M_smell_6, s_M_smell_7, s_M_smell_10, s_M_smell_11, s_M_smell_12, s_M_smell_13, s_M_smell_14, s_M_smell_15, s_M_smell_18, s_M_smell_19, s_M_smell_22, s_M_smell_23, s_M_smell_25, s_M_smell_26, s_M_smell_27, s_M_smell_29, s_M_smell_32, s_M_smell_35, s_M_smell_36, s_M_smell_37, s_M_smell_40, s_M_smell_43, s_M_smell_44, s_M_smell_45, s_M_smell_46, s_M_smell_47, s_M_smell_48, s_M_smell_50, s_M_smell_53, s_M_smell_56, s_M_smell_59, s_M_smell_60, mF, mC, ml_64, mf_64, mw_63, mw_64, ml_74, mf_74, mw_74, ml_75, mf_75, mw_75, ml_76, mf_76, mw_76, ml_77, mf_77, mw_77, xll_11, xlg_11_0, xlg_11_1, xlg_11_2, xlg_11_3, xlg_11_4, xlg_11_5, xlg_11_6, xlg_11_7, xlg_11_8, xls_11_0, xls_11_1, xls_11_2, xls_11_3, xls_11_4, xls_11_5, xls_11_6, xls_11_7, xls_11_8, nF hM hK, nC hM hK, nl_0 hM hK, nl_1 hM hK, nl_2 hM hK, nl_3 hM hK, nl_4 hM hK, nl_5 hM hK, nl_6 hM hK, nl_7 hM hK, nf_0 hM hK, nf_1 hM hK, nf_2 hM hK, nf_3 hM hK, nf_4 hM hK, nf_5 hM hK, nf_6 hM hK, nf_7 hM hK, xll_9, xlg_9_0, xlg_9_1, xlg_9_2, xlg_9_3, xlg_9_4, xlg_9_5, xlg_9_6, xlg_9_7, xlg_9_8, xlg_9_9, xlg_9_10, xlg_9_11, xlg_9_12, xlg_9_13, not_false_eq_true, Nat.reduceLT, Nat.reduceAdd, true_and, and_true, if_true, if_false, ite_true, ite_false, xnb_0, xnb_1, xnb_b, xk_v, xk_n, c_cl_0 c (show c < 6 by omega), c_cl_1 c (show c < 6 by omega), nw_c0 hc, nw_c1 hc, f_M_across, f_M_down, h_M_isCell hM hK nk hR, h_M_aroma hM hK nk nn hR ha, nvp (show c < 7 by omega) (by omega), ncl (show c < 2147483648 by omega), kc.2.2.1, smeC]
  rw [mn_c]
  by_cases p : celC s (a 3 c + eaw x) (a 4 c + sow x) = 0
  · rw [if_pos p, if_pos p]
  · rw [if_neg p, if_neg p]
theorem l_M_best (hM : kM H K g q) (hK : mK K) (nk nn : Nat) (rs re : Nat → Nat) (hR : kRk b s g q nk) (hC : kRc b s g q nn rs re) (ha : bOK a nk) (c : Nat) (hc : c < nn) (f : Nat → Int32) (hf : ∀ i, smeC a b t s nk c (nI i) = f i) : ∀ m i (z : Nat), i + m = 4 →
    xr E (d + 3) m_M_best Q (4, [some (.ref 63), some (.int (nI c)), some (.int (nI z)), some (.int (nI i))], [], mH H K th sz ea tp (nwO nn a t) kp wc sk) =
    Q (.inl (some (.int (tlB f i m (nI z) (f z)))), mH H K th sz ea tp (nwO nn a t) kp wc sk) := by
  intro m
  induction m with
  | zero =>
    intro i z hi
    have : i = 4 := by omega
    subst this
    rw [s_M_best_4]
    simp only [s_M_best_0, s_M_best_1, s_M_best_2, s_M_best_3, s_M_best_5, s_M_best_6, s_M_best_9, s_M_best_10, s_M_best_11, s_M_best_12, s_M_best_15, s_M_best_16, s_M_best_17, s_M_best_18, s_M_best_21, s_M_best_24, s_M_best_25, s_M_best_26, s_M_best_29, s_M_best_32, s_M_best_33, mF, mC, ml_64, mf_64, mw_63, mw_64, ml_74, mf_74, mw_74, ml_75, mf_75, mw_75, ml_76, mf_76, mw_76, ml_77, mf_77, mw_77, xll_11, xlg_11_0, xlg_11_1, xlg_11_2, xlg_11_3, xlg_11_4, xlg_11_5, xlg_11_6, xlg_11_7, xlg_11_8, xls_11_0, xls_11_1, xls_11_2, xls_11_3, xls_11_4, xls_11_5, xls_11_6, xls_11_7, xls_11_8, not_false_eq_true, Nat.reduceLT, Nat.reduceAdd, true_and, and_true, if_true, if_false, ite_true, ite_false, xnb_0, xnb_1, xnb_b, xk_v, xk_n, show (nI 4 < 4) = False from nge (n := 4) (Nat.le_refl 4) (by omega), tlB]
  | succ m ih =>
    intro i z hi
    rw [s_M_best_4]
    simp only [s_M_best_0, s_M_best_1, s_M_best_2, s_M_best_3, s_M_best_5, s_M_best_6, s_M_best_9, s_M_best_10, s_M_best_11, s_M_best_12, s_M_best_15, s_M_best_16, s_M_best_17, s_M_best_18, s_M_best_21, s_M_best_24, s_M_best_25, s_M_best_26, s_M_best_29, s_M_best_32, s_M_best_33, mF, mC, ml_64, mf_64, mw_63, mw_64, ml_74, mf_74, mw_74, ml_75, mf_75, mw_75, ml_76, mf_76, mw_76, ml_77, mf_77, mw_77, xll_11, xlg_11_0, xlg_11_1, xlg_11_2, xlg_11_3, xlg_11_4, xlg_11_5, xlg_11_6, xlg_11_7, xlg_11_8, xls_11_0, xls_11_1, xls_11_2, xls_11_3, xls_11_4, xls_11_5, xls_11_6, xls_11_7, xls_11_8, not_false_eq_true, Nat.reduceLT, Nat.reduceAdd, true_and, and_true, if_true, if_false, ite_true, ite_false, xnb_0, xnb_1, xnb_b, xk_v, xk_n, show (nI i < 4) = True from nlt (n := 4) (show i < 4 by omega) (by omega), f_M_smell hM hK nk nn rs re hR hC ha c hc, hf, nI_1, ih (i + 1) _ (by omega), tlB]
    by_cases p : f z < f i
    · rw [if_pos p, if_pos p]
    · rw [if_neg p, if_neg p]
theorem tlB_0 (f : Nat → Int32) (h : -1 < f 0) : tlB f 0 4 0 (-1) = tlB f 1 3 (nI 0) (f 0) := by
  show (if -1 < f 0 then tlB f 1 3 (nI 0) (f 0) else tlB f 1 3 0 (-1)) = _
  rw [if_pos h]
theorem f_M_best (hM : kM H K g q) (hK : mK K) (nk nn : Nat) (rs re : Nat → Nat) (hR : kRk b s g q nk) (hC : kRc b s g q nn rs re) (ha : bOK a nk) (c : Nat) (hc : c < nn) (h0 : -1 < smeC a b t s nk c (nI 0)) :
    xcall E xprog (d + 4) 170 [.ref 63, .int (nI c)] (mH H K th sz ea tp (nwO nn a t) kp wc sk) Q = Q (.inl (some (.int (tlB (fun i => smeC a b t s nk c (nI i)) 0 4 0 (-1)))), mH H K th sz ea tp (nwO nn a t) kp wc sk) := by
  generalize hf : (fun i => smeC a b t s nk c (nI i)) = f
  have hf' : ∀ i, smeC a b t s nk c (nI i) = f i := fun i => congrFun hf i
  rw [e_M_best, s_M_best_0, s_M_best_1, s_M_best_2, s_M_best_3, tlB_0 f (by rw [← hf' 0]; exact h0)]
  exact l_M_best hM hK nk nn rs re hR hC ha c hc f hf' 3 1 0 rfl
end MSMELL
