/-! ===== what is asked of a clipper ===== -/
section CLIP
variable {E : xE} {d n : Nat} {Q : xR → Prop} {X H : xH} {Kb Ks K l : Nat} {ep th : Int32} {T : Nat → Nat} {tp : Nat → Int32} {b : Nat → Nat → Int32} {nm : Nat → Int64} {s : Nat → Int32} {a : Nat → Nat → Int32} {t : Nat → Int32} {g : Nat → Nat → Int32} {q : Nat → Int32} {co ro nk nc nn cnt : Nat} {rs re : Nat → Nat} {nw kp wc sk : Nat → Int32} {sz ea : Int32}
theorem f_M_isClipper (hM : kM H K g q) (hK : mK K) (c : Int32) : xcall E xprog (d + 2) 186 [.ref 63, .int c] (mH H K th sz ea tp nw kp wc sk) Q = Q (.inl (some (.int (xb (¬ c < 0 ∧ ¬ q 4 - 1 < c)))), (mH H K th sz ea tp nw kp wc sk)) := by
  rw [e_M_isClipper]
  simp only [s_M_isClipper_0, s_M_isClipper_1, s_M_isClipper_2, s_M_isClipper_3, s_M_isClipper_6, s_M_isClipper_9, s_M_isClipper_10, s_M_isClipper_11, s_M_isClipper_14, mF, mC, ml_64, mf_64, mw_63, mw_64, ml_74, mf_74, mw_74, ml_75, mf_75, mw_75, ml_76, mf_76, mw_76, ml_77, mf_77, mw_77, xll_11, xlg_11_0, xlg_11_1, xlg_11_2, xlg_11_3, xlg_11_4, xlg_11_5, xlg_11_6, xlg_11_7, xlg_11_8, xls_11_0, xls_11_1, xls_11_2, xls_11_3, xls_11_4, xls_11_5, xls_11_6, xls_11_7, xls_11_8, nF hM hK, nC hM hK, nl_0 hM hK, nl_1 hM hK, nl_2 hM hK, nl_3 hM hK, nl_4 hM hK, nl_5 hM hK, nl_6 hM hK, nl_7 hM hK, nf_0 hM hK, nf_1 hM hK, nf_2 hM hK, nf_3 hM hK, nf_4 hM hK, nf_5 hM hK, nf_6 hM hK, nf_7 hM hK, xll_9, xlg_9_0, xlg_9_1, xlg_9_2, xlg_9_3, xlg_9_4, xlg_9_5, xlg_9_6, xlg_9_7, xlg_9_8, xlg_9_9, xlg_9_10, xlg_9_11, xlg_9_12, xlg_9_13, not_false_eq_true, Nat.reduceLT, Nat.reduceAdd, true_and, and_true, if_true, if_false, ite_true, ite_false, xnb_0, xnb_1, xnb_b, xk_v, xk_n, f_M_isIn]
theorem f_M_clipper_i (hM : kM H K g q) (hK : mK K) (hq : q 4 = nI nn) (h6 : nn ≤ 6) {i w : Nat} (hi : i < nn) (hw : w < 6) : xcall E xprog (d + 3) 196 [.ref 63, .int (nI i), .int (nI w)] (mH H K th sz ea tp nw kp wc sk) Q = Q (.inl (some (.int (nw (15 + 6 * i + w)))), mH H K 0 sz ea tp nw kp wc sk) := by
  have hx : (¬ nI i < 0 ∧ ¬ q 4 - 1 < nI i) := by
    rw [hq]
    refine (rng_in h6 _).mpr ⟨?_, ?_⟩
    · rw [nI_n0 i (by omega)]; exact id
    · rw [n_lt (by omega) (by omega)]; exact hi
  rw [e_M_clipper]
  simp only [s_M_clipper_0, s_M_clipper_1, s_M_clipper_2, s_M_clipper_5, s_M_clipper_6, s_M_clipper_7, s_M_clipper_10, s_M_clipper_13, s_M_clipper_14, s_M_clipper_15, s_M_clipper_16, s_M_clipper_19, s_M_clipper_22, s_M_clipper_23, s_M_clipper_24, s_M_clipper_27, mF, mC, ml_64, mf_64, mw_63, mw_64, ml_74, mf_74, mw_74, ml_75, mf_75, mw_75, ml_76, mf_76, mw_76, ml_77, mf_77, mw_77, xll_11, xlg_11_0, xlg_11_1, xlg_11_2, xlg_11_3, xlg_11_4, xlg_11_5, xlg_11_6, xlg_11_7, xlg_11_8, xls_11_0, xls_11_1, xls_11_2, xls_11_3, xls_11_4, xls_11_5, xls_11_6, xls_11_7, xls_11_8, nF hM hK, nC hM hK, nl_0 hM hK, nl_1 hM hK, nl_2 hM hK, nl_3 hM hK, nl_4 hM hK, nl_5 hM hK, nl_6 hM hK, nl_7 hM hK, nf_0 hM hK, nf_1 hM hK, nf_2 hM hK, nf_3 hM hK, nf_4 hM hK, nf_5 hM hK, nf_6 hM hK, nf_7 hM hK, xll_9, xlg_9_0, xlg_9_1, xlg_9_2, xlg_9_3, xlg_9_4, xlg_9_5, xlg_9_6, xlg_9_7, xlg_9_8, xlg_9_9, xlg_9_10, xlg_9_11, xlg_9_12, xlg_9_13, not_false_eq_true, Nat.reduceLT, Nat.reduceAdd, true_and, and_true, if_true, if_false, ite_true, ite_false, xnb_0, xnb_1, xnb_b, xk_v, xk_n, f_M_isClipper hM hK, xb_t hx, show ((1 : Int32) = 0) = False from eq_false (by decide), f_M_cl i w (show 15 + 6 * i + w < 51 by omega)]
theorem f_M_clipper_o (hM : kM H K g q) (hK : mK K) (hq : q 4 = nI nn) (h6 : nn ≤ 6) {c w : Int32} (hc : c < 0 ∨ ¬ c < nI nn) : xcall E xprog (d + 3) 196 [.ref 63, .int c, .int w] (mH H K th sz ea tp nw kp wc sk) Q = Q (.inl (some (.int 0)), mH H K 1 sz ea tp nw kp wc sk) := by
  have hx : ¬ (¬ c < 0 ∧ ¬ q 4 - 1 < c) := by
    rw [hq]
    intro h
    obtain ⟨h1, h2⟩ := (rng_in h6 _).mp h
    rcases hc with r | r
    · exact h1 r
    · exact r h2
  rw [e_M_clipper]
  simp only [s_M_clipper_0, s_M_clipper_1, s_M_clipper_2, s_M_clipper_5, s_M_clipper_6, s_M_clipper_7, s_M_clipper_10, s_M_clipper_13, s_M_clipper_14, s_M_clipper_15, s_M_clipper_16, s_M_clipper_19, s_M_clipper_22, s_M_clipper_23, s_M_clipper_24, s_M_clipper_27, mF, mC, ml_64, mf_64, mw_63, mw_64, ml_74, mf_74, mw_74, ml_75, mf_75, mw_75, ml_76, mf_76, mw_76, ml_77, mf_77, mw_77, xll_11, xlg_11_0, xlg_11_1, xlg_11_2, xlg_11_3, xlg_11_4, xlg_11_5, xlg_11_6, xlg_11_7, xlg_11_8, xls_11_0, xls_11_1, xls_11_2, xls_11_3, xls_11_4, xls_11_5, xls_11_6, xls_11_7, xls_11_8, nF hM hK, nC hM hK, nl_0 hM hK, nl_1 hM hK, nl_2 hM hK, nl_3 hM hK, nl_4 hM hK, nl_5 hM hK, nl_6 hM hK, nl_7 hM hK, nf_0 hM hK, nf_1 hM hK, nf_2 hM hK, nf_3 hM hK, nf_4 hM hK, nf_5 hM hK, nf_6 hM hK, nf_7 hM hK, xll_9, xlg_9_0, xlg_9_1, xlg_9_2, xlg_9_3, xlg_9_4, xlg_9_5, xlg_9_6, xlg_9_7, xlg_9_8, xlg_9_9, xlg_9_10, xlg_9_11, xlg_9_12, xlg_9_13, not_false_eq_true, Nat.reduceLT, Nat.reduceAdd, true_and, and_true, if_true, if_false, ite_true, ite_false, xnb_0, xnb_1, xnb_b, xk_v, xk_n, f_M_isClipper hM hK, xb_f hx, e_M_fail, s_M_fail_0, s_M_fail_1, s_M_fail_2, s_M_fail_5, s_M_fail_6]
theorem c_M_columnOf_i (hM : kM H K g q) (hK : mK K) (hq : q 4 = nI nn) (h6 : nn ≤ 6) {i : Nat} (hi : i < nn) : xcall E xprog (d + 4) 197 [.ref 63, .int (nI i)] (mH H K th sz ea tp nw kp wc sk) Q = Q (.inl (some (.int (nw (15 + 6 * i + 0)))), mH H K 0 sz ea tp nw kp wc sk) := by
  have z := fun (Q : xR → Prop) => f_M_clipper_i (E := E) (d := d) (Q := Q) (th := th) (sz := sz) (ea := ea) (tp := tp) (nw := nw) (kp := kp) (wc := wc) (sk := sk) hM hK hq h6 hi (show 0 < 6 by omega)
  rw [show nI 0 = (0 : Int32) from rfl] at z
  rw [e_M_columnOf]
  simp only [s_M_columnOf_0, s_M_columnOf_1, s_M_columnOf_2, s_M_columnOf_3, s_M_columnOf_6, mF, mC, ml_64, mf_64, mw_63, mw_64, ml_74, mf_74, mw_74, ml_75, mf_75, mw_75, ml_76, mf_76, mw_76, ml_77, mf_77, mw_77, xll_11, xlg_11_0, xlg_11_1, xlg_11_2, xlg_11_3, xlg_11_4, xlg_11_5, xlg_11_6, xlg_11_7, xlg_11_8, xls_11_0, xls_11_1, xls_11_2, xls_11_3, xls_11_4, xls_11_5, xls_11_6, xls_11_7, xls_11_8, not_false_eq_true, Nat.reduceLT, Nat.reduceAdd, true_and, and_true, if_true, if_false, ite_true, ite_false, xnb_0, xnb_1, xnb_b, xk_v, xk_n, z]
theorem c_M_columnOf_o (hM : kM H K g q) (hK : mK K) (hq : q 4 = nI nn) (h6 : nn ≤ 6) {c : Int32} (hc : c < 0 ∨ ¬ c < nI nn) : xcall E xprog (d + 4) 197 [.ref 63, .int c] (mH H K th sz ea tp nw kp wc sk) Q = Q (.inl (some (.int 0)), mH H K 1 sz ea tp nw kp wc sk) := by
  rw [e_M_columnOf]
  simp only [s_M_columnOf_0, s_M_columnOf_1, s_M_columnOf_2, s_M_columnOf_3, s_M_columnOf_6, mF, mC, ml_64, mf_64, mw_63, mw_64, ml_74, mf_74, mw_74, ml_75, mf_75, mw_75, ml_76, mf_76, mw_76, ml_77, mf_77, mw_77, xll_11, xlg_11_0, xlg_11_1, xlg_11_2, xlg_11_3, xlg_11_4, xlg_11_5, xlg_11_6, xlg_11_7, xlg_11_8, xls_11_0, xls_11_1, xls_11_2, xls_11_3, xls_11_4, xls_11_5, xls_11_6, xls_11_7, xls_11_8, not_false_eq_true, Nat.reduceLT, Nat.reduceAdd, true_and, and_true, if_true, if_false, ite_true, ite_false, xnb_0, xnb_1, xnb_b, xk_v, xk_n, f_M_clipper_o hM hK hq h6 hc]
theorem c_T_columnOf (hc : X.1 0 = tgC Kb Ks ep) (hB : kB X Kb b nm s) (hY : kY X 43 Kb a t) (hs : s 4 = nI nn) (h6 : nn ≤ 6) (c : Int32) : xcall E xprog (d + 2) 85 [.ref 0, .int c] X Q = if c < 0 ∨ ¬ c < nI nn then Q (.inr 14, xnew X (.inr (14, [])) 6) else Q (.inl (some (.int (a 3 c.toNatClampNeg))), X) := by
  have z := fun (Q : xR → Prop) => f_T_needClipper (E := E) (d := d) (Q := Q) hc hB c
  rw [hs] at z
  unfold tgC at hc
  obtain ⟨y0, y1, y2, y3, y4, y5, y6, y7, y8, y9⟩ := id hY
  rw [e_T_columnOf]
  by_cases h : c < 0 ∨ ¬ c < nI nn
  · simp only [s_T_columnOf_0, s_T_columnOf_1, s_T_columnOf_2, xc_of hc, not_false_eq_true, Nat.reduceLT, Nat.reduceAdd, true_and, and_true, if_true, if_false, ite_true, ite_false, xnb_0, xnb_1, xnb_b, xk_v, xk_n, z, eq_true h, xk_x (y := m_T_columnOf) rfl]
  · have h1 : ¬ c < 0 := fun r => h (Or.inl r)
    have h2 : c < nI nn := Decidable.byContradiction fun r => h (Or.inr r)
    obtain ⟨i, hi, rfl⟩ := rng_ex h6 h1 h2
    simp only [s_T_columnOf_0, s_T_columnOf_1, s_T_columnOf_2, s_T_columnOf_5, s_T_columnOf_6, s_T_columnOf_9, s_T_columnOf_12, s_T_columnOf_13, s_T_columnOf_14, xc_of hc, xf_of hc, xll_8, xlg_8_0, xlg_8_1, xlg_8_2, xlg_8_3, xlg_8_4, xlg_8_5, xlg_8_6, xf_of y0, xc_of y0, xIl_of y1, xIf_of y1, xIl_of y2, xIf_of y2, xIl_of y3, xIf_of y3, xIl_of y4, xIf_of y4, xIl_of y5, xIf_of y5, xIl_of y6, xIf_of y6, xIl_of y7, xIf_of y7, xIl_of y8, xIf_of y8, xIl_of y9, xIf_of y9, xll_0, xlg_0_0, xlg_0_1, xlg_0_2, xlg_0_3, xlg_0_4, xlg_0_5, xlg_0_6, xlg_0_7, xlg_0_8, xlg_0_9, xlg_0_10, xlg_0_11, xlg_0_12, xlg_0_13, not_false_eq_true, Nat.reduceLT, Nat.reduceAdd, true_and, and_true, if_true, if_false, ite_true, ite_false, xnb_0, xnb_1, xnb_b, xk_v, xk_n, z, eq_false h, nvp (show i < 6 by omega) (by omega), ncl (show i < 2147483648 by omega)]
theorem st_columnOf (hI : IV n X) (p : Int32) : ∃ (k v : Int32) (X1 X2 : xH), (∀ Q, xcall E xprog (d + 4) 238 [.ref 0, .int p, .ref 78] X Q = Q (.inl (some (.int k)), X1)) ∧
    (∀ Q, xcall E xprog (d + 4) 197 [.ref 63, .int p] X1 Q = Q (.inl (some (.int v)), X2)) ∧ IVk n k X2 ∧ (k = 0 → ∃ f : Nat → Int64, X2.1 78 = xarJ 1 f ∧ f 0 = v.toInt64) ∧ (X2.2 = X.2 ∨ X2.2 = (X.2.1 + 1, X.2.2 + 6)) := by
  obtain ⟨Kb, Ks, K, l, ep, th, T, tp, b, nm, s, a, t, g, q, co, ro, nk, nc, nn, cnt, rs, re, hD⟩ := hI
  obtain ⟨hc, _, _, hB, _, hY, _, _⟩ := id hD.1
  have hs : s 4 = nI nn := hD.2.2.2.2.1.2.2.1.2.2.2.2.1
  have hq : q 4 = nI nn := hD.2.2.2.2.1.2.1.1
  have h6 : nn ≤ 6 := hD.2.2.2.2.1.2.1.2.1
  have x0 : xcl X 0 = 8 := by
    unfold tgC at hc
    exact xc_of hc
  by_cases h : p < 0 ∨ ¬ p < nI nn
  · obtain ⟨kp, wc, sk, m1, m2⟩ := ivD_th (ivD_new (c := .inr (14, [])) (k := 6) hD)
    refine ⟨1, 0, xnew X (.inr (14, [])) 6, _, fun Q => ?_, fun Q => ?_, ⟨Kb, Ks, K, l, ep, T, tp, b, nm, s, a, t, g, q, co, ro, nk, nc, nn, cnt, rs, re, m2 1 kp wc sk⟩, fun h => absurd h (by decide), Or.inr ?_⟩
    · rw [e_L_columnOf]
      simp only [s_L_columnOf_0, s_L_columnOf_1, s_L_columnOf_2, s_L_columnOf_3, s_L_columnOf_4, x0, not_false_eq_true, Nat.reduceLT, Nat.reduceAdd, true_and, and_true, if_true, if_false, ite_true, ite_false, xnb_0, xnb_1, xnb_b, xk_v, xk_n, c_T_columnOf hc hB hY hs h6, eq_true h, k_columnOf_14, s_L_columnOf_13, s_L_columnOf_14]
    · refine (congrArg (fun Z => xcall E xprog (d + 4) 197 [.ref 63, .int p] Z Q) m1).trans ?_
      exact c_M_columnOf_o (ivD_new (c := .inr (14, [])) (k := 6) hD).2.1.2.1 (ivD_new (c := .inr (14, [])) (k := 6) hD).2.1.2.2.1 hq h6 h
    · rfl
  · have h1 : ¬ p < 0 := fun r => h (Or.inl r)
    have h2 : p < nI nn := Decidable.byContradiction fun r => h (Or.inr r)
    obtain ⟨i, hi, rfl⟩ := rng_ex h6 h1 h2
    obtain ⟨f, hf⟩ := hD.2.1.2.2.2.2.2
    have hD2 := ivD_out (f := vp_updL f 0 (a 3 i).toInt64) hD
    obtain ⟨kp, wc, sk, m1, m2⟩ := ivD_th hD2
    refine ⟨0, a 3 i, xset X 78 (xarJ 1 (vp_updL f 0 (a 3 i).toInt64)), _, fun Q => ?_, fun Q => ?_, ⟨Kb, Ks, K, l, ep, T, tp, b, nm, s, a, t, g, q, co, ro, nk, nc, nn, cnt, rs, re, m2 0 kp wc sk⟩, fun _ => ⟨_, (mH_o 78 (by omega)).trans (xset_s 78 rfl), updL_s⟩, Or.inl rfl⟩
    · rw [e_L_columnOf]
      simp only [s_L_columnOf_0, s_L_columnOf_1, s_L_columnOf_2, s_L_columnOf_3, s_L_columnOf_4, s_L_columnOf_7, s_L_columnOf_8, s_L_columnOf_9, s_L_columnOf_15, s_L_columnOf_16, x0, not_false_eq_true, Nat.reduceLT, Nat.reduceAdd, true_and, and_true, if_true, if_false, ite_true, ite_false, xnb_0, xnb_1, xnb_b, xk_v, xk_n, c_T_columnOf hc hB hY hs h6, eq_false h, ncl (show i < 2147483648 by omega), xJl_of hf, xJf_of hf, show vp_in (0 : Int32) 1 = True from nvp (i := 0) (by omega) (by omega), show (0 : Int32).toNatClampNeg = 0 from rfl]
    · refine (congrArg (fun Z => xcall E xprog (d + 4) 197 [.ref 63, .int (nI i)] Z Q) m1).trans ?_
      rw [c_M_columnOf_i hD2.2.1.2.1 hD2.2.1.2.2.1 hq h6 hi, nw_c0 hi]
theorem c_M_rowOf_i (hM : kM H K g q) (hK : mK K) (hq : q 4 = nI nn) (h6 : nn ≤ 6) {i : Nat} (hi : i < nn) : xcall E xprog (d + 4) 198 [.ref 63, .int (nI i)] (mH H K th sz ea tp nw kp wc sk) Q = Q (.inl (some (.int (nw (15 + 6 * i + 1)))), mH H K 0 sz ea tp nw kp wc sk) := by
  have z := fun (Q : xR → Prop) => f_M_clipper_i (E := E) (d := d) (Q := Q) (th := th) (sz := sz) (ea := ea) (tp := tp) (nw := nw) (kp := kp) (wc := wc) (sk := sk) hM hK hq h6 hi (show 1 < 6 by omega)
  rw [show nI 1 = (1 : Int32) from rfl] at z
  rw [e_M_rowOf]
  simp only [s_M_rowOf_0, s_M_rowOf_1, s_M_rowOf_2, s_M_rowOf_3, s_M_rowOf_6, mF, mC, ml_64, mf_64, mw_63, mw_64, ml_74, mf_74, mw_74, ml_75, mf_75, mw_75, ml_76, mf_76, mw_76, ml_77, mf_77, mw_77, xll_11, xlg_11_0, xlg_11_1, xlg_11_2, xlg_11_3, xlg_11_4, xlg_11_5, xlg_11_6, xlg_11_7, xlg_11_8, xls_11_0, xls_11_1, xls_11_2, xls_11_3, xls_11_4, xls_11_5, xls_11_6, xls_11_7, xls_11_8, not_false_eq_true, Nat.reduceLT, Nat.reduceAdd, true_and, and_true, if_true, if_false, ite_true, ite_false, xnb_0, xnb_1, xnb_b, xk_v, xk_n, z]
theorem c_M_rowOf_o (hM : kM H K g q) (hK : mK K) (hq : q 4 = nI nn) (h6 : nn ≤ 6) {c : Int32} (hc : c < 0 ∨ ¬ c < nI nn) : xcall E xprog (d + 4) 198 [.ref 63, .int c] (mH H K th sz ea tp nw kp wc sk) Q = Q (.inl (some (.int 0)), mH H K 1 sz ea tp nw kp wc sk) := by
  rw [e_M_rowOf]
  simp only [s_M_rowOf_0, s_M_rowOf_1, s_M_rowOf_2, s_M_rowOf_3, s_M_rowOf_6, mF, mC, ml_64, mf_64, mw_63, mw_64, ml_74, mf_74, mw_74, ml_75, mf_75, mw_75, ml_76, mf_76, mw_76, ml_77, mf_77, mw_77, xll_11, xlg_11_0, xlg_11_1, xlg_11_2, xlg_11_3, xlg_11_4, xlg_11_5, xlg_11_6, xlg_11_7, xlg_11_8, xls_11_0, xls_11_1, xls_11_2, xls_11_3, xls_11_4, xls_11_5, xls_11_6, xls_11_7, xls_11_8, not_false_eq_true, Nat.reduceLT, Nat.reduceAdd, true_and, and_true, if_true, if_false, ite_true, ite_false, xnb_0, xnb_1, xnb_b, xk_v, xk_n, f_M_clipper_o hM hK hq h6 hc]
theorem c_T_rowOf (hc : X.1 0 = tgC Kb Ks ep) (hB : kB X Kb b nm s) (hY : kY X 43 Kb a t) (hs : s 4 = nI nn) (h6 : nn ≤ 6) (c : Int32) : xcall E xprog (d + 2) 86 [.ref 0, .int c] X Q = if c < 0 ∨ ¬ c < nI nn then Q (.inr 14, xnew X (.inr (14, [])) 6) else Q (.inl (some (.int (a 4 c.toNatClampNeg))), X) := by
  have z := fun (Q : xR → Prop) => f_T_needClipper (E := E) (d := d) (Q := Q) hc hB c
  rw [hs] at z
  unfold tgC at hc
  obtain ⟨y0, y1, y2, y3, y4, y5, y6, y7, y8, y9⟩ := id hY
  rw [e_T_rowOf]
  by_cases h : c < 0 ∨ ¬ c < nI nn
  · simp only [s_T_rowOf_0, s_T_rowOf_1, s_T_rowOf_2, xc_of hc, not_false_eq_true, Nat.reduceLT, Nat.reduceAdd, true_and, and_true, if_true, if_false, ite_true, ite_false, xnb_0, xnb_1, xnb_b, xk_v, xk_n, z, eq_true h, xk_x (y := m_T_rowOf) rfl]
  · have h1 : ¬ c < 0 := fun r => h (Or.inl r)
    have h2 : c < nI nn := Decidable.byContradiction fun r => h (Or.inr r)
    obtain ⟨i, hi, rfl⟩ := rng_ex h6 h1 h2
    simp only [s_T_rowOf_0, s_T_rowOf_1, s_T_rowOf_2, s_T_rowOf_5, s_T_rowOf_6, s_T_rowOf_9, s_T_rowOf_12, s_T_rowOf_13, s_T_rowOf_14, xc_of hc, xf_of hc, xll_8, xlg_8_0, xlg_8_1, xlg_8_2, xlg_8_3, xlg_8_4, xlg_8_5, xlg_8_6, xf_of y0, xc_of y0, xIl_of y1, xIf_of y1, xIl_of y2, xIf_of y2, xIl_of y3, xIf_of y3, xIl_of y4, xIf_of y4, xIl_of y5, xIf_of y5, xIl_of y6, xIf_of y6, xIl_of y7, xIf_of y7, xIl_of y8, xIf_of y8, xIl_of y9, xIf_of y9, xll_0, xlg_0_0, xlg_0_1, xlg_0_2, xlg_0_3, xlg_0_4, xlg_0_5, xlg_0_6, xlg_0_7, xlg_0_8, xlg_0_9, xlg_0_10, xlg_0_11, xlg_0_12, xlg_0_13, not_false_eq_true, Nat.reduceLT, Nat.reduceAdd, true_and, and_true, if_true, if_false, ite_true, ite_false, xnb_0, xnb_1, xnb_b, xk_v, xk_n, z, eq_false h, nvp (show i < 6 by omega) (by omega), ncl (show i < 2147483648 by omega)]
theorem st_rowOf (hI : IV n X) (p : Int32) : ∃ (k v : Int32) (X1 X2 : xH), (∀ Q, xcall E xprog (d + 4) 239 [.ref 0, .int p, .ref 78] X Q = Q (.inl (some (.int k)), X1)) ∧
    (∀ Q, xcall E xprog (d + 4) 198 [.ref 63, .int p] X1 Q = Q (.inl (some (.int v)), X2)) ∧ IVk n k X2 ∧ (k = 0 → ∃ f : Nat → Int64, X2.1 78 = xarJ 1 f ∧ f 0 = v.toInt64) ∧ (X2.2 = X.2 ∨ X2.2 = (X.2.1 + 1, X.2.2 + 6)) := by
  obtain ⟨Kb, Ks, K, l, ep, th, T, tp, b, nm, s, a, t, g, q, co, ro, nk, nc, nn, cnt, rs, re, hD⟩ := hI
  obtain ⟨hc, _, _, hB, _, hY, _, _⟩ := id hD.1
  have hs : s 4 = nI nn := hD.2.2.2.2.1.2.2.1.2.2.2.2.1
  have hq : q 4 = nI nn := hD.2.2.2.2.1.2.1.1
  have h6 : nn ≤ 6 := hD.2.2.2.2.1.2.1.2.1
  have x0 : xcl X 0 = 8 := by
    unfold tgC at hc
    exact xc_of hc
  by_cases h : p < 0 ∨ ¬ p < nI nn
  · obtain ⟨kp, wc, sk, m1, m2⟩ := ivD_th (ivD_new (c := .inr (14, [])) (k := 6) hD)
    refine ⟨1, 0, xnew X (.inr (14, [])) 6, _, fun Q => ?_, fun Q => ?_, ⟨Kb, Ks, K, l, ep, T, tp, b, nm, s, a, t, g, q, co, ro, nk, nc, nn, cnt, rs, re, m2 1 kp wc sk⟩, fun h => absurd h (by decide), Or.inr ?_⟩
    · rw [e_L_rowOf]
      simp only [s_L_rowOf_0, s_L_rowOf_1, s_L_rowOf_2, s_L_rowOf_3, s_L_rowOf_4, x0, not_false_eq_true, Nat.reduceLT, Nat.reduceAdd, true_and, and_true, if_true, if_false, ite_true, ite_false, xnb_0, xnb_1, xnb_b, xk_v, xk_n, c_T_rowOf hc hB hY hs h6, eq_true h, k_rowOf_14, s_L_rowOf_13, s_L_rowOf_14]
    · refine (congrArg (fun Z => xcall E xprog (d + 4) 198 [.ref 63, .int p] Z Q) m1).trans ?_
      exact c_M_rowOf_o (ivD_new (c := .inr (14, [])) (k := 6) hD).2.1.2.1 (ivD_new (c := .inr (14, [])) (k := 6) hD).2.1.2.2.1 hq h6 h
    · rfl
  · have h1 : ¬ p < 0 := fun r => h (Or.inl r)
    have h2 : p < nI nn := Decidable.byContradiction fun r => h (Or.inr r)
    obtain ⟨i, hi, rfl⟩ := rng_ex h6 h1 h2
    obtain ⟨f, hf⟩ := hD.2.1.2.2.2.2.2
    have hD2 := ivD_out (f := vp_updL f 0 (a 4 i).toInt64) hD
    obtain ⟨kp, wc, sk, m1, m2⟩ := ivD_th hD2
    refine ⟨0, a 4 i, xset X 78 (xarJ 1 (vp_updL f 0 (a 4 i).toInt64)), _, fun Q => ?_, fun Q => ?_, ⟨Kb, Ks, K, l, ep, T, tp, b, nm, s, a, t, g, q, co, ro, nk, nc, nn, cnt, rs, re, m2 0 kp wc sk⟩, fun _ => ⟨_, (mH_o 78 (by omega)).trans (xset_s 78 rfl), updL_s⟩, Or.inl rfl⟩
    · rw [e_L_rowOf]
      simp only [s_L_rowOf_0, s_L_rowOf_1, s_L_rowOf_2, s_L_rowOf_3, s_L_rowOf_4, s_L_rowOf_7, s_L_rowOf_8, s_L_rowOf_9, s_L_rowOf_15, s_L_rowOf_16, x0, not_false_eq_true, Nat.reduceLT, Nat.reduceAdd, true_and, and_true, if_true, if_false, ite_true, ite_false, xnb_0, xnb_1, xnb_b, xk_v, xk_n, c_T_rowOf hc hB hY hs h6, eq_false h, ncl (show i < 2147483648 by omega), xJl_of hf, xJf_of hf, show vp_in (0 : Int32) 1 = True from nvp (i := 0) (by omega) (by omega), show (0 : Int32).toNatClampNeg = 0 from rfl]
    · refine (congrArg (fun Z => xcall E xprog (d + 4) 198 [.ref 63, .int (nI i)] Z Q) m1).trans ?_
      rw [c_M_rowOf_i hD2.2.1.2.1 hD2.2.1.2.2.1 hq h6 hi, nw_c1 hi]
theorem c_M_leafOf_i (hM : kM H K g q) (hK : mK K) (hq : q 4 = nI nn) (h6 : nn ≤ 6) {i : Nat} (hi : i < nn) : xcall E xprog (d + 4) 200 [.ref 63, .int (nI i)] (mH H K th sz ea tp nw kp wc sk) Q = Q (.inl (some (.int (nw (15 + 6 * i + 2)))), mH H K 0 sz ea tp nw kp wc sk) := by
  have z := fun (Q : xR → Prop) => f_M_clipper_i (E := E) (d := d) (Q := Q) (th := th) (sz := sz) (ea := ea) (tp := tp) (nw := nw) (kp := kp) (wc := wc) (sk := sk) hM hK hq h6 hi (show 2 < 6 by omega)
  rw [show nI 2 = (2 : Int32) from rfl] at z
  rw [e_M_leafOf]
  simp only [s_M_leafOf_0, s_M_leafOf_1, s_M_leafOf_2, s_M_leafOf_3, s_M_leafOf_6, mF, mC, ml_64, mf_64, mw_63, mw_64, ml_74, mf_74, mw_74, ml_75, mf_75, mw_75, ml_76, mf_76, mw_76, ml_77, mf_77, mw_77, xll_11, xlg_11_0, xlg_11_1, xlg_11_2, xlg_11_3, xlg_11_4, xlg_11_5, xlg_11_6, xlg_11_7, xlg_11_8, xls_11_0, xls_11_1, xls_11_2, xls_11_3, xls_11_4, xls_11_5, xls_11_6, xls_11_7, xls_11_8, not_false_eq_true, Nat.reduceLT, Nat.reduceAdd, true_and, and_true, if_true, if_false, ite_true, ite_false, xnb_0, xnb_1, xnb_b, xk_v, xk_n, z]
theorem c_M_leafOf_o (hM : kM H K g q) (hK : mK K) (hq : q 4 = nI nn) (h6 : nn ≤ 6) {c : Int32} (hc : c < 0 ∨ ¬ c < nI nn) : xcall E xprog (d + 4) 200 [.ref 63, .int c] (mH H K th sz ea tp nw kp wc sk) Q = Q (.inl (some (.int 0)), mH H K 1 sz ea tp nw kp wc sk) := by
  rw [e_M_leafOf]
  simp only [s_M_leafOf_0, s_M_leafOf_1, s_M_leafOf_2, s_M_leafOf_3, s_M_leafOf_6, mF, mC, ml_64, mf_64, mw_63, mw_64, ml_74, mf_74, mw_74, ml_75, mf_75, mw_75, ml_76, mf_76, mw_76, ml_77, mf_77, mw_77, xll_11, xlg_11_0, xlg_11_1, xlg_11_2, xlg_11_3, xlg_11_4, xlg_11_5, xlg_11_6, xlg_11_7, xlg_11_8, xls_11_0, xls_11_1, xls_11_2, xls_11_3, xls_11_4, xls_11_5, xls_11_6, xls_11_7, xls_11_8, not_false_eq_true, Nat.reduceLT, Nat.reduceAdd, true_and, and_true, if_true, if_false, ite_true, ite_false, xnb_0, xnb_1, xnb_b, xk_v, xk_n, f_M_clipper_o hM hK hq h6 hc]
theorem c_T_leafOf (hc : X.1 0 = tgC Kb Ks ep) (hB : kB X Kb b nm s) (hY : kY X 43 Kb a t) (hs : s 4 = nI nn) (h6 : nn ≤ 6) (c : Int32) : xcall E xprog (d + 2) 88 [.ref 0, .int c] X Q = if c < 0 ∨ ¬ c < nI nn then Q (.inr 14, xnew X (.inr (14, [])) 6) else Q (.inl (some (.int (a 5 c.toNatClampNeg))), X) := by
  have z := fun (Q : xR → Prop) => f_T_needClipper (E := E) (d := d) (Q := Q) hc hB c
  rw [hs] at z
  unfold tgC at hc
  obtain ⟨y0, y1, y2, y3, y4, y5, y6, y7, y8, y9⟩ := id hY
  rw [e_T_leafOf]
  by_cases h : c < 0 ∨ ¬ c < nI nn
  · simp only [s_T_leafOf_0, s_T_leafOf_1, s_T_leafOf_2, xc_of hc, not_false_eq_true, Nat.reduceLT, Nat.reduceAdd, true_and, and_true, if_true, if_false, ite_true, ite_false, xnb_0, xnb_1, xnb_b, xk_v, xk_n, z, eq_true h, xk_x (y := m_T_leafOf) rfl]
  · have h1 : ¬ c < 0 := fun r => h (Or.inl r)
    have h2 : c < nI nn := Decidable.byContradiction fun r => h (Or.inr r)
    obtain ⟨i, hi, rfl⟩ := rng_ex h6 h1 h2
    simp only [s_T_leafOf_0, s_T_leafOf_1, s_T_leafOf_2, s_T_leafOf_5, s_T_leafOf_6, s_T_leafOf_9, s_T_leafOf_12, s_T_leafOf_13, s_T_leafOf_14, xc_of hc, xf_of hc, xll_8, xlg_8_0, xlg_8_1, xlg_8_2, xlg_8_3, xlg_8_4, xlg_8_5, xlg_8_6, xf_of y0, xc_of y0, xIl_of y1, xIf_of y1, xIl_of y2, xIf_of y2, xIl_of y3, xIf_of y3, xIl_of y4, xIf_of y4, xIl_of y5, xIf_of y5, xIl_of y6, xIf_of y6, xIl_of y7, xIf_of y7, xIl_of y8, xIf_of y8, xIl_of y9, xIf_of y9, xll_0, xlg_0_0, xlg_0_1, xlg_0_2, xlg_0_3, xlg_0_4, xlg_0_5, xlg_0_6, xlg_0_7, xlg_0_8, xlg_0_9, xlg_0_10, xlg_0_11, xlg_0_12, xlg_0_13, not_false_eq_true, Nat.reduceLT, Nat.reduceAdd, true_and, and_true, if_true, if_false, ite_true, ite_false, xnb_0, xnb_1, xnb_b, xk_v, xk_n, z, eq_false h, nvp (show i < 6 by omega) (by omega), ncl (show i < 2147483648 by omega)]
theorem st_leafOf (hI : IV n X) (p : Int32) : ∃ (k v : Int32) (X1 X2 : xH), (∀ Q, xcall E xprog (d + 4) 241 [.ref 0, .int p, .ref 78] X Q = Q (.inl (some (.int k)), X1)) ∧
    (∀ Q, xcall E xprog (d + 4) 200 [.ref 63, .int p] X1 Q = Q (.inl (some (.int v)), X2)) ∧ IVk n k X2 ∧ (k = 0 → ∃ f : Nat → Int64, X2.1 78 = xarJ 1 f ∧ f 0 = v.toInt64) ∧ (X2.2 = X.2 ∨ X2.2 = (X.2.1 + 1, X.2.2 + 6)) := by
  obtain ⟨Kb, Ks, K, l, ep, th, T, tp, b, nm, s, a, t, g, q, co, ro, nk, nc, nn, cnt, rs, re, hD⟩ := hI
  obtain ⟨hc, _, _, hB, _, hY, _, _⟩ := id hD.1
  have hs : s 4 = nI nn := hD.2.2.2.2.1.2.2.1.2.2.2.2.1
  have hq : q 4 = nI nn := hD.2.2.2.2.1.2.1.1
  have h6 : nn ≤ 6 := hD.2.2.2.2.1.2.1.2.1
  have x0 : xcl X 0 = 8 := by
    unfold tgC at hc
    exact xc_of hc
  by_cases h : p < 0 ∨ ¬ p < nI nn
  · obtain ⟨kp, wc, sk, m1, m2⟩ := ivD_th (ivD_new (c := .inr (14, [])) (k := 6) hD)
    refine ⟨1, 0, xnew X (.inr (14, [])) 6, _, fun Q => ?_, fun Q => ?_, ⟨Kb, Ks, K, l, ep, T, tp, b, nm, s, a, t, g, q, co, ro, nk, nc, nn, cnt, rs, re, m2 1 kp wc sk⟩, fun h => absurd h (by decide), Or.inr ?_⟩
    · rw [e_L_leafOf]
      simp only [s_L_leafOf_0, s_L_leafOf_1, s_L_leafOf_2, s_L_leafOf_3, s_L_leafOf_4, x0, not_false_eq_true, Nat.reduceLT, Nat.reduceAdd, true_and, and_true, if_true, if_false, ite_true, ite_false, xnb_0, xnb_1, xnb_b, xk_v, xk_n, c_T_leafOf hc hB hY hs h6, eq_true h, k_leafOf_14, s_L_leafOf_13, s_L_leafOf_14]
    · refine (congrArg (fun Z => xcall E xprog (d + 4) 200 [.ref 63, .int p] Z Q) m1).trans ?_
      exact c_M_leafOf_o (ivD_new (c := .inr (14, [])) (k := 6) hD).2.1.2.1 (ivD_new (c := .inr (14, [])) (k := 6) hD).2.1.2.2.1 hq h6 h
    · rfl
  · have h1 : ¬ p < 0 := fun r => h (Or.inl r)
    have h2 : p < nI nn := Decidable.byContradiction fun r => h (Or.inr r)
    obtain ⟨i, hi, rfl⟩ := rng_ex h6 h1 h2
    obtain ⟨f, hf⟩ := hD.2.1.2.2.2.2.2
    have hD2 := ivD_out (f := vp_updL f 0 (a 5 i).toInt64) hD
    obtain ⟨kp, wc, sk, m1, m2⟩ := ivD_th hD2
    refine ⟨0, a 5 i, xset X 78 (xarJ 1 (vp_updL f 0 (a 5 i).toInt64)), _, fun Q => ?_, fun Q => ?_, ⟨Kb, Ks, K, l, ep, T, tp, b, nm, s, a, t, g, q, co, ro, nk, nc, nn, cnt, rs, re, m2 0 kp wc sk⟩, fun _ => ⟨_, (mH_o 78 (by omega)).trans (xset_s 78 rfl), updL_s⟩, Or.inl rfl⟩
    · rw [e_L_leafOf]
      simp only [s_L_leafOf_0, s_L_leafOf_1, s_L_leafOf_2, s_L_leafOf_3, s_L_leafOf_4, s_L_leafOf_7, s_L_leafOf_8, s_L_leafOf_9, s_L_leafOf_15, s_L_leafOf_16, x0, not_false_eq_true, Nat.reduceLT, Nat.reduceAdd, true_and, and_true, if_true, if_false, ite_true, ite_false, xnb_0, xnb_1, xnb_b, xk_v, xk_n, c_T_leafOf hc hB hY hs h6, eq_false h, ncl (show i < 2147483648 by omega), xJl_of hf, xJf_of hf, show vp_in (0 : Int32) 1 = True from nvp (i := 0) (by omega) (by omega), show (0 : Int32).toNatClampNeg = 0 from rfl]
    · refine (congrArg (fun Z => xcall E xprog (d + 4) 200 [.ref 63, .int (nI i)] Z Q) m1).trans ?_
      rw [c_M_leafOf_i hD2.2.1.2.1 hD2.2.1.2.2.1 hq h6 hi, nw_c2 hi]
theorem c_M_wayOf_i (hM : kM H K g q) (hK : mK K) (hq : q 4 = nI nn) (h6 : nn ≤ 6) {i : Nat} (hi : i < nn) : xcall E xprog (d + 4) 201 [.ref 63, .int (nI i)] (mH H K th sz ea tp nw kp wc sk) Q = Q (.inl (some (.int (nw (15 + 6 * i + 3)))), mH H K 0 sz ea tp nw kp wc sk) := by
  have z := fun (Q : xR → Prop) => f_M_clipper_i (E := E) (d := d) (Q := Q) (th := th) (sz := sz) (ea := ea) (tp := tp) (nw := nw) (kp := kp) (wc := wc) (sk := sk) hM hK hq h6 hi (show 3 < 6 by omega)
  rw [show nI 3 = (3 : Int32) from rfl] at z
  rw [e_M_wayOf]
  simp only [s_M_wayOf_0, s_M_wayOf_1, s_M_wayOf_2, s_M_wayOf_3, s_M_wayOf_6, mF, mC, ml_64, mf_64, mw_63, mw_64, ml_74, mf_74, mw_74, ml_75, mf_75, mw_75, ml_76, mf_76, mw_76, ml_77, mf_77, mw_77, xll_11, xlg_11_0, xlg_11_1, xlg_11_2, xlg_11_3, xlg_11_4, xlg_11_5, xlg_11_6, xlg_11_7, xlg_11_8, xls_11_0, xls_11_1, xls_11_2, xls_11_3, xls_11_4, xls_11_5, xls_11_6, xls_11_7, xls_11_8, not_false_eq_true, Nat.reduceLT, Nat.reduceAdd, true_and, and_true, if_true, if_false, ite_true, ite_false, xnb_0, xnb_1, xnb_b, xk_v, xk_n, z]
theorem c_M_wayOf_o (hM : kM H K g q) (hK : mK K) (hq : q 4 = nI nn) (h6 : nn ≤ 6) {c : Int32} (hc : c < 0 ∨ ¬ c < nI nn) : xcall E xprog (d + 4) 201 [.ref 63, .int c] (mH H K th sz ea tp nw kp wc sk) Q = Q (.inl (some (.int 0)), mH H K 1 sz ea tp nw kp wc sk) := by
  rw [e_M_wayOf]
  simp only [s_M_wayOf_0, s_M_wayOf_1, s_M_wayOf_2, s_M_wayOf_3, s_M_wayOf_6, mF, mC, ml_64, mf_64, mw_63, mw_64, ml_74, mf_74, mw_74, ml_75, mf_75, mw_75, ml_76, mf_76, mw_76, ml_77, mf_77, mw_77, xll_11, xlg_11_0, xlg_11_1, xlg_11_2, xlg_11_3, xlg_11_4, xlg_11_5, xlg_11_6, xlg_11_7, xlg_11_8, xls_11_0, xls_11_1, xls_11_2, xls_11_3, xls_11_4, xls_11_5, xls_11_6, xls_11_7, xls_11_8, not_false_eq_true, Nat.reduceLT, Nat.reduceAdd, true_and, and_true, if_true, if_false, ite_true, ite_false, xnb_0, xnb_1, xnb_b, xk_v, xk_n, f_M_clipper_o hM hK hq h6 hc]
theorem c_T_wayOf (hc : X.1 0 = tgC Kb Ks ep) (hB : kB X Kb b nm s) (hY : kY X 43 Kb a t) (hs : s 4 = nI nn) (h6 : nn ≤ 6) (c : Int32) : xcall E xprog (d + 2) 89 [.ref 0, .int c] X Q = if c < 0 ∨ ¬ c < nI nn then Q (.inr 14, xnew X (.inr (14, [])) 6) else Q (.inl (some (.int (a 6 c.toNatClampNeg))), X) := by
  have z := fun (Q : xR → Prop) => f_T_needClipper (E := E) (d := d) (Q := Q) hc hB c
  rw [hs] at z
  unfold tgC at hc
  obtain ⟨y0, y1, y2, y3, y4, y5, y6, y7, y8, y9⟩ := id hY
  rw [e_T_wayOf]
  by_cases h : c < 0 ∨ ¬ c < nI nn
  · simp only [s_T_wayOf_0, s_T_wayOf_1, s_T_wayOf_2, xc_of hc, not_false_eq_true, Nat.reduceLT, Nat.reduceAdd, true_and, and_true, if_true, if_false, ite_true, ite_false, xnb_0, xnb_1, xnb_b, xk_v, xk_n, z, eq_true h, xk_x (y := m_T_wayOf) rfl]
  · have h1 : ¬ c < 0 := fun r => h (Or.inl r)
    have h2 : c < nI nn := Decidable.byContradiction fun r => h (Or.inr r)
    obtain ⟨i, hi, rfl⟩ := rng_ex h6 h1 h2
    simp only [s_T_wayOf_0, s_T_wayOf_1, s_T_wayOf_2, s_T_wayOf_5, s_T_wayOf_6, s_T_wayOf_9, s_T_wayOf_12, s_T_wayOf_13, s_T_wayOf_14, xc_of hc, xf_of hc, xll_8, xlg_8_0, xlg_8_1, xlg_8_2, xlg_8_3, xlg_8_4, xlg_8_5, xlg_8_6, xf_of y0, xc_of y0, xIl_of y1, xIf_of y1, xIl_of y2, xIf_of y2, xIl_of y3, xIf_of y3, xIl_of y4, xIf_of y4, xIl_of y5, xIf_of y5, xIl_of y6, xIf_of y6, xIl_of y7, xIf_of y7, xIl_of y8, xIf_of y8, xIl_of y9, xIf_of y9, xll_0, xlg_0_0, xlg_0_1, xlg_0_2, xlg_0_3, xlg_0_4, xlg_0_5, xlg_0_6, xlg_0_7, xlg_0_8, xlg_0_9, xlg_0_10, xlg_0_11, xlg_0_12, xlg_0_13, not_false_eq_true, Nat.reduceLT, Nat.reduceAdd, true_and, and_true, if_true, if_false, ite_true, ite_false, xnb_0, xnb_1, xnb_b, xk_v, xk_n, z, eq_false h, nvp (show i < 6 by omega) (by omega), ncl (show i < 2147483648 by omega)]
theorem st_wayOf (hI : IV n X) (p : Int32) : ∃ (k v : Int32) (X1 X2 : xH), (∀ Q, xcall E xprog (d + 4) 242 [.ref 0, .int p, .ref 78] X Q = Q (.inl (some (.int k)), X1)) ∧
    (∀ Q, xcall E xprog (d + 4) 201 [.ref 63, .int p] X1 Q = Q (.inl (some (.int v)), X2)) ∧ IVk n k X2 ∧ (k = 0 → ∃ f : Nat → Int64, X2.1 78 = xarJ 1 f ∧ f 0 = v.toInt64) ∧ (X2.2 = X.2 ∨ X2.2 = (X.2.1 + 1, X.2.2 + 6)) := by
  obtain ⟨Kb, Ks, K, l, ep, th, T, tp, b, nm, s, a, t, g, q, co, ro, nk, nc, nn, cnt, rs, re, hD⟩ := hI
  obtain ⟨hc, _, _, hB, _, hY, _, _⟩ := id hD.1
  have hs : s 4 = nI nn := hD.2.2.2.2.1.2.2.1.2.2.2.2.1
  have hq : q 4 = nI nn := hD.2.2.2.2.1.2.1.1
  have h6 : nn ≤ 6 := hD.2.2.2.2.1.2.1.2.1
  have x0 : xcl X 0 = 8 := by
    unfold tgC at hc
    exact xc_of hc
  by_cases h : p < 0 ∨ ¬ p < nI nn
  · obtain ⟨kp, wc, sk, m1, m2⟩ := ivD_th (ivD_new (c := .inr (14, [])) (k := 6) hD)
    refine ⟨1, 0, xnew X (.inr (14, [])) 6, _, fun Q => ?_, fun Q => ?_, ⟨Kb, Ks, K, l, ep, T, tp, b, nm, s, a, t, g, q, co, ro, nk, nc, nn, cnt, rs, re, m2 1 kp wc sk⟩, fun h => absurd h (by decide), Or.inr ?_⟩
    · rw [e_L_wayOf]
      simp only [s_L_wayOf_0, s_L_wayOf_1, s_L_wayOf_2, s_L_wayOf_3, s_L_wayOf_4, x0, not_false_eq_true, Nat.reduceLT, Nat.reduceAdd, true_and, and_true, if_true, if_false, ite_true, ite_false, xnb_0, xnb_1, xnb_b, xk_v, xk_n, c_T_wayOf hc hB hY hs h6, eq_true h, k_wayOf_14, s_L_wayOf_13, s_L_wayOf_14]
    · refine (congrArg (fun Z => xcall E xprog (d + 4) 201 [.ref 63, .int p] Z Q) m1).trans ?_
      exact c_M_wayOf_o (ivD_new (c := .inr (14, [])) (k := 6) hD).2.1.2.1 (ivD_new (c := .inr (14, [])) (k := 6) hD).2.1.2.2.1 hq h6 h
    · rfl
  · have h1 : ¬ p < 0 := fun r => h (Or.inl r)
    have h2 : p < nI nn := Decidable.byContradiction fun r => h (Or.inr r)
    obtain ⟨i, hi, rfl⟩ := rng_ex h6 h1 h2
    obtain ⟨f, hf⟩ := hD.2.1.2.2.2.2.2
    have hD2 := ivD_out (f := vp_updL f 0 (a 6 i).toInt64) hD
    obtain ⟨kp, wc, sk, m1, m2⟩ := ivD_th hD2
    refine ⟨0, a 6 i, xset X 78 (xarJ 1 (vp_updL f 0 (a 6 i).toInt64)), _, fun Q => ?_, fun Q => ?_, ⟨Kb, Ks, K, l, ep, T, tp, b, nm, s, a, t, g, q, co, ro, nk, nc, nn, cnt, rs, re, m2 0 kp wc sk⟩, fun _ => ⟨_, (mH_o 78 (by omega)).trans (xset_s 78 rfl), updL_s⟩, Or.inl rfl⟩
    · rw [e_L_wayOf]
      simp only [s_L_wayOf_0, s_L_wayOf_1, s_L_wayOf_2, s_L_wayOf_3, s_L_wayOf_4, s_L_wayOf_7, s_L_wayOf_8, s_L_wayOf_9, s_L_wayOf_15, s_L_wayOf_16, x0, not_false_eq_true, Nat.reduceLT, Nat.reduceAdd, true_and, and_true, if_true, if_false, ite_true, ite_false, xnb_0, xnb_1, xnb_b, xk_v, xk_n, c_T_wayOf hc hB hY hs h6, eq_false h, ncl (show i < 2147483648 by omega), xJl_of hf, xJf_of hf, show vp_in (0 : Int32) 1 = True from nvp (i := 0) (by omega) (by omega), show (0 : Int32).toNatClampNeg = 0 from rfl]
    · refine (congrArg (fun Z => xcall E xprog (d + 4) 201 [.ref 63, .int (nI i)] Z Q) m1).trans ?_
      rw [c_M_wayOf_i hD2.2.1.2.1 hD2.2.1.2.2.1 hq h6 hi, nw_c3 hi]
theorem c_M_pointsOf_i (hM : kM H K g q) (hK : mK K) (hq : q 4 = nI nn) (h6 : nn ≤ 6) {i : Nat} (hi : i < nn) : xcall E xprog (d + 4) 203 [.ref 63, .int (nI i)] (mH H K th sz ea tp nw kp wc sk) Q = Q (.inl (some (.int (nw (15 + 6 * i + 4)))), mH H K 0 sz ea tp nw kp wc sk) := by
  have z := fun (Q : xR → Prop) => f_M_clipper_i (E := E) (d := d) (Q := Q) (th := th) (sz := sz) (ea := ea) (tp := tp) (nw := nw) (kp := kp) (wc := wc) (sk := sk) hM hK hq h6 hi (show 4 < 6 by omega)
  rw [show nI 4 = (4 : Int32) from rfl] at z
  rw [e_M_pointsOf]
  simp only [s_M_pointsOf_0, s_M_pointsOf_1, s_M_pointsOf_2, s_M_pointsOf_3, s_M_pointsOf_6, mF, mC, ml_64, mf_64, mw_63, mw_64, ml_74, mf_74, mw_74, ml_75, mf_75, mw_75, ml_76, mf_76, mw_76, ml_77, mf_77, mw_77, xll_11, xlg_11_0, xlg_11_1, xlg_11_2, xlg_11_3, xlg_11_4, xlg_11_5, xlg_11_6, xlg_11_7, xlg_11_8, xls_11_0, xls_11_1, xls_11_2, xls_11_3, xls_11_4, xls_11_5, xls_11_6, xls_11_7, xls_11_8, not_false_eq_true, Nat.reduceLT, Nat.reduceAdd, true_and, and_true, if_true, if_false, ite_true, ite_false, xnb_0, xnb_1, xnb_b, xk_v, xk_n, z]
theorem c_M_pointsOf_o (hM : kM H K g q) (hK : mK K) (hq : q 4 = nI nn) (h6 : nn ≤ 6) {c : Int32} (hc : c < 0 ∨ ¬ c < nI nn) : xcall E xprog (d + 4) 203 [.ref 63, .int c] (mH H K th sz ea tp nw kp wc sk) Q = Q (.inl (some (.int 0)), mH H K 1 sz ea tp nw kp wc sk) := by
  rw [e_M_pointsOf]
  simp only [s_M_pointsOf_0, s_M_pointsOf_1, s_M_pointsOf_2, s_M_pointsOf_3, s_M_pointsOf_6, mF, mC, ml_64, mf_64, mw_63, mw_64, ml_74, mf_74, mw_74, ml_75, mf_75, mw_75, ml_76, mf_76, mw_76, ml_77, mf_77, mw_77, xll_11, xlg_11_0, xlg_11_1, xlg_11_2, xlg_11_3, xlg_11_4, xlg_11_5, xlg_11_6, xlg_11_7, xlg_11_8, xls_11_0, xls_11_1, xls_11_2, xls_11_3, xls_11_4, xls_11_5, xls_11_6, xls_11_7, xls_11_8, not_false_eq_true, Nat.reduceLT, Nat.reduceAdd, true_and, and_true, if_true, if_false, ite_true, ite_false, xnb_0, xnb_1, xnb_b, xk_v, xk_n, f_M_clipper_o hM hK hq h6 hc]
theorem c_T_pointsOf (hc : X.1 0 = tgC Kb Ks ep) (hB : kB X Kb b nm s) (hY : kY X 43 Kb a t) (hs : s 4 = nI nn) (h6 : nn ≤ 6) (c : Int32) : xcall E xprog (d + 2) 91 [.ref 0, .int c] X Q = if c < 0 ∨ ¬ c < nI nn then Q (.inr 14, xnew X (.inr (14, [])) 6) else Q (.inl (some (.int (a 7 c.toNatClampNeg))), X) := by
  have z := fun (Q : xR → Prop) => f_T_needClipper (E := E) (d := d) (Q := Q) hc hB c
  rw [hs] at z
  unfold tgC at hc
  obtain ⟨y0, y1, y2, y3, y4, y5, y6, y7, y8, y9⟩ := id hY
  rw [e_T_pointsOf]
  by_cases h : c < 0 ∨ ¬ c < nI nn
  · simp only [s_T_pointsOf_0, s_T_pointsOf_1, s_T_pointsOf_2, xc_of hc, not_false_eq_true, Nat.reduceLT, Nat.reduceAdd, true_and, and_true, if_true, if_false, ite_true, ite_false, xnb_0, xnb_1, xnb_b, xk_v, xk_n, z, eq_true h, xk_x (y := m_T_pointsOf) rfl]
  · have h1 : ¬ c < 0 := fun r => h (Or.inl r)
    have h2 : c < nI nn := Decidable.byContradiction fun r => h (Or.inr r)
    obtain ⟨i, hi, rfl⟩ := rng_ex h6 h1 h2
    simp only [s_T_pointsOf_0, s_T_pointsOf_1, s_T_pointsOf_2, s_T_pointsOf_5, s_T_pointsOf_6, s_T_pointsOf_9, s_T_pointsOf_12, s_T_pointsOf_13, s_T_pointsOf_14, xc_of hc, xf_of hc, xll_8, xlg_8_0, xlg_8_1, xlg_8_2, xlg_8_3, xlg_8_4, xlg_8_5, xlg_8_6, xf_of y0, xc_of y0, xIl_of y1, xIf_of y1, xIl_of y2, xIf_of y2, xIl_of y3, xIf_of y3, xIl_of y4, xIf_of y4, xIl_of y5, xIf_of y5, xIl_of y6, xIf_of y6, xIl_of y7, xIf_of y7, xIl_of y8, xIf_of y8, xIl_of y9, xIf_of y9, xll_0, xlg_0_0, xlg_0_1, xlg_0_2, xlg_0_3, xlg_0_4, xlg_0_5, xlg_0_6, xlg_0_7, xlg_0_8, xlg_0_9, xlg_0_10, xlg_0_11, xlg_0_12, xlg_0_13, not_false_eq_true, Nat.reduceLT, Nat.reduceAdd, true_and, and_true, if_true, if_false, ite_true, ite_false, xnb_0, xnb_1, xnb_b, xk_v, xk_n, z, eq_false h, nvp (show i < 6 by omega) (by omega), ncl (show i < 2147483648 by omega)]
theorem st_pointsOf (hI : IV n X) (p : Int32) : ∃ (k v : Int32) (X1 X2 : xH), (∀ Q, xcall E xprog (d + 4) 244 [.ref 0, .int p, .ref 78] X Q = Q (.inl (some (.int k)), X1)) ∧
    (∀ Q, xcall E xprog (d + 4) 203 [.ref 63, .int p] X1 Q = Q (.inl (some (.int v)), X2)) ∧ IVk n k X2 ∧ (k = 0 → ∃ f : Nat → Int64, X2.1 78 = xarJ 1 f ∧ f 0 = v.toInt64) ∧ (X2.2 = X.2 ∨ X2.2 = (X.2.1 + 1, X.2.2 + 6)) := by
  obtain ⟨Kb, Ks, K, l, ep, th, T, tp, b, nm, s, a, t, g, q, co, ro, nk, nc, nn, cnt, rs, re, hD⟩ := hI
  obtain ⟨hc, _, _, hB, _, hY, _, _⟩ := id hD.1
  have hs : s 4 = nI nn := hD.2.2.2.2.1.2.2.1.2.2.2.2.1
  have hq : q 4 = nI nn := hD.2.2.2.2.1.2.1.1
  have h6 : nn ≤ 6 := hD.2.2.2.2.1.2.1.2.1
  have x0 : xcl X 0 = 8 := by
    unfold tgC at hc
    exact xc_of hc
  by_cases h : p < 0 ∨ ¬ p < nI nn
  · obtain ⟨kp, wc, sk, m1, m2⟩ := ivD_th (ivD_new (c := .inr (14, [])) (k := 6) hD)
    refine ⟨1, 0, xnew X (.inr (14, [])) 6, _, fun Q => ?_, fun Q => ?_, ⟨Kb, Ks, K, l, ep, T, tp, b, nm, s, a, t, g, q, co, ro, nk, nc, nn, cnt, rs, re, m2 1 kp wc sk⟩, fun h => absurd h (by decide), Or.inr ?_⟩
    · rw [e_L_pointsOf]
      simp only [s_L_pointsOf_0, s_L_pointsOf_1, s_L_pointsOf_2, s_L_pointsOf_3, s_L_pointsOf_4, x0, not_false_eq_true, Nat.reduceLT, Nat.reduceAdd, true_and, and_true, if_true, if_false, ite_true, ite_false, xnb_0, xnb_1, xnb_b, xk_v, xk_n, c_T_pointsOf hc hB hY hs h6, eq_true h, k_pointsOf_14, s_L_pointsOf_13, s_L_pointsOf_14]
    · refine (congrArg (fun Z => xcall E xprog (d + 4) 203 [.ref 63, .int p] Z Q) m1).trans ?_
      exact c_M_pointsOf_o (ivD_new (c := .inr (14, [])) (k := 6) hD).2.1.2.1 (ivD_new (c := .inr (14, [])) (k := 6) hD).2.1.2.2.1 hq h6 h
    · rfl
  · have h1 : ¬ p < 0 := fun r => h (Or.inl r)
    have h2 : p < nI nn := Decidable.byContradiction fun r => h (Or.inr r)
    obtain ⟨i, hi, rfl⟩ := rng_ex h6 h1 h2
    obtain ⟨f, hf⟩ := hD.2.1.2.2.2.2.2
    have hD2 := ivD_out (f := vp_updL f 0 (a 7 i).toInt64) hD
    obtain ⟨kp, wc, sk, m1, m2⟩ := ivD_th hD2
    refine ⟨0, a 7 i, xset X 78 (xarJ 1 (vp_updL f 0 (a 7 i).toInt64)), _, fun Q => ?_, fun Q => ?_, ⟨Kb, Ks, K, l, ep, T, tp, b, nm, s, a, t, g, q, co, ro, nk, nc, nn, cnt, rs, re, m2 0 kp wc sk⟩, fun _ => ⟨_, (mH_o 78 (by omega)).trans (xset_s 78 rfl), updL_s⟩, Or.inl rfl⟩
    · rw [e_L_pointsOf]
      simp only [s_L_pointsOf_0, s_L_pointsOf_1, s_L_pointsOf_2, s_L_pointsOf_3, s_L_pointsOf_4, s_L_pointsOf_7, s_L_pointsOf_8, s_L_pointsOf_9, s_L_pointsOf_15, s_L_pointsOf_16, x0, not_false_eq_true, Nat.reduceLT, Nat.reduceAdd, true_and, and_true, if_true, if_false, ite_true, ite_false, xnb_0, xnb_1, xnb_b, xk_v, xk_n, c_T_pointsOf hc hB hY hs h6, eq_false h, ncl (show i < 2147483648 by omega), xJl_of hf, xJf_of hf, show vp_in (0 : Int32) 1 = True from nvp (i := 0) (by omega) (by omega), show (0 : Int32).toNatClampNeg = 0 from rfl]
    · refine (congrArg (fun Z => xcall E xprog (d + 4) 203 [.ref 63, .int (nI i)] Z Q) m1).trans ?_
      rw [c_M_pointsOf_i hD2.2.1.2.1 hD2.2.1.2.2.1 hq h6 hi, nw_c4 hi]
theorem c_M_sipsOf_i (hM : kM H K g q) (hK : mK K) (hq : q 4 = nI nn) (h6 : nn ≤ 6) {i : Nat} (hi : i < nn) : xcall E xprog (d + 4) 204 [.ref 63, .int (nI i)] (mH H K th sz ea tp nw kp wc sk) Q = Q (.inl (some (.int (nw (15 + 6 * i + 5)))), mH H K 0 sz ea tp nw kp wc sk) := by
  have z := fun (Q : xR → Prop) => f_M_clipper_i (E := E) (d := d) (Q := Q) (th := th) (sz := sz) (ea := ea) (tp := tp) (nw := nw) (kp := kp) (wc := wc) (sk := sk) hM hK hq h6 hi (show 5 < 6 by omega)
  rw [show nI 5 = (5 : Int32) from rfl] at z
  rw [e_M_sipsOf]
  simp only [s_M_sipsOf_0, s_M_sipsOf_1, s_M_sipsOf_2, s_M_sipsOf_3, s_M_sipsOf_6, mF, mC, ml_64, mf_64, mw_63, mw_64, ml_74, mf_74, mw_74, ml_75, mf_75, mw_75, ml_76, mf_76, mw_76, ml_77, mf_77, mw_77, xll_11, xlg_11_0, xlg_11_1, xlg_11_2, xlg_11_3, xlg_11_4, xlg_11_5, xlg_11_6, xlg_11_7, xlg_11_8, xls_11_0, xls_11_1, xls_11_2, xls_11_3, xls_11_4, xls_11_5, xls_11_6, xls_11_7, xls_11_8, not_false_eq_true, Nat.reduceLT, Nat.reduceAdd, true_and, and_true, if_true, if_false, ite_true, ite_false, xnb_0, xnb_1, xnb_b, xk_v, xk_n, z]
theorem c_M_sipsOf_o (hM : kM H K g q) (hK : mK K) (hq : q 4 = nI nn) (h6 : nn ≤ 6) {c : Int32} (hc : c < 0 ∨ ¬ c < nI nn) : xcall E xprog (d + 4) 204 [.ref 63, .int c] (mH H K th sz ea tp nw kp wc sk) Q = Q (.inl (some (.int 0)), mH H K 1 sz ea tp nw kp wc sk) := by
  rw [e_M_sipsOf]
  simp only [s_M_sipsOf_0, s_M_sipsOf_1, s_M_sipsOf_2, s_M_sipsOf_3, s_M_sipsOf_6, mF, mC, ml_64, mf_64, mw_63, mw_64, ml_74, mf_74, mw_74, ml_75, mf_75, mw_75, ml_76, mf_76, mw_76, ml_77, mf_77, mw_77, xll_11, xlg_11_0, xlg_11_1, xlg_11_2, xlg_11_3, xlg_11_4, xlg_11_5, xlg_11_6, xlg_11_7, xlg_11_8, xls_11_0, xls_11_1, xls_11_2, xls_11_3, xls_11_4, xls_11_5, xls_11_6, xls_11_7, xls_11_8, not_false_eq_true, Nat.reduceLT, Nat.reduceAdd, true_and, and_true, if_true, if_false, ite_true, ite_false, xnb_0, xnb_1, xnb_b, xk_v, xk_n, f_M_clipper_o hM hK hq h6 hc]
theorem c_T_sipsOf (hc : X.1 0 = tgC Kb Ks ep) (hB : kB X Kb b nm s) (hY : kY X 43 Kb a t) (hs : s 4 = nI nn) (h6 : nn ≤ 6) (c : Int32) : xcall E xprog (d + 2) 92 [.ref 0, .int c] X Q = if c < 0 ∨ ¬ c < nI nn then Q (.inr 14, xnew X (.inr (14, [])) 6) else Q (.inl (some (.int (a 8 c.toNatClampNeg))), X) := by
  have z := fun (Q : xR → Prop) => f_T_needClipper (E := E) (d := d) (Q := Q) hc hB c
  rw [hs] at z
  unfold tgC at hc
  obtain ⟨y0, y1, y2, y3, y4, y5, y6, y7, y8, y9⟩ := id hY
  rw [e_T_sipsOf]
  by_cases h : c < 0 ∨ ¬ c < nI nn
  · simp only [s_T_sipsOf_0, s_T_sipsOf_1, s_T_sipsOf_2, xc_of hc, not_false_eq_true, Nat.reduceLT, Nat.reduceAdd, true_and, and_true, if_true, if_false, ite_true, ite_false, xnb_0, xnb_1, xnb_b, xk_v, xk_n, z, eq_true h, xk_x (y := m_T_sipsOf) rfl]
  · have h1 : ¬ c < 0 := fun r => h (Or.inl r)
    have h2 : c < nI nn := Decidable.byContradiction fun r => h (Or.inr r)
    obtain ⟨i, hi, rfl⟩ := rng_ex h6 h1 h2
    simp only [s_T_sipsOf_0, s_T_sipsOf_1, s_T_sipsOf_2, s_T_sipsOf_5, s_T_sipsOf_6, s_T_sipsOf_9, s_T_sipsOf_12, s_T_sipsOf_13, s_T_sipsOf_14, xc_of hc, xf_of hc, xll_8, xlg_8_0, xlg_8_1, xlg_8_2, xlg_8_3, xlg_8_4, xlg_8_5, xlg_8_6, xf_of y0, xc_of y0, xIl_of y1, xIf_of y1, xIl_of y2, xIf_of y2, xIl_of y3, xIf_of y3, xIl_of y4, xIf_of y4, xIl_of y5, xIf_of y5, xIl_of y6, xIf_of y6, xIl_of y7, xIf_of y7, xIl_of y8, xIf_of y8, xIl_of y9, xIf_of y9, xll_0, xlg_0_0, xlg_0_1, xlg_0_2, xlg_0_3, xlg_0_4, xlg_0_5, xlg_0_6, xlg_0_7, xlg_0_8, xlg_0_9, xlg_0_10, xlg_0_11, xlg_0_12, xlg_0_13, not_false_eq_true, Nat.reduceLT, Nat.reduceAdd, true_and, and_true, if_true, if_false, ite_true, ite_false, xnb_0, xnb_1, xnb_b, xk_v, xk_n, z, eq_false h, nvp (show i < 6 by omega) (by omega), ncl (show i < 2147483648 by omega)]
theorem st_sipsOf (hI : IV n X) (p : Int32) : ∃ (k v : Int32) (X1 X2 : xH), (∀ Q, xcall E xprog (d + 4) 245 [.ref 0, .int p, .ref 78] X Q = Q (.inl (some (.int k)), X1)) ∧
    (∀ Q, xcall E xprog (d + 4) 204 [.ref 63, .int p] X1 Q = Q (.inl (some (.int v)), X2)) ∧ IVk n k X2 ∧ (k = 0 → ∃ f : Nat → Int64, X2.1 78 = xarJ 1 f ∧ f 0 = v.toInt64) ∧ (X2.2 = X.2 ∨ X2.2 = (X.2.1 + 1, X.2.2 + 6)) := by
  obtain ⟨Kb, Ks, K, l, ep, th, T, tp, b, nm, s, a, t, g, q, co, ro, nk, nc, nn, cnt, rs, re, hD⟩ := hI
  obtain ⟨hc, _, _, hB, _, hY, _, _⟩ := id hD.1
  have hs : s 4 = nI nn := hD.2.2.2.2.1.2.2.1.2.2.2.2.1
  have hq : q 4 = nI nn := hD.2.2.2.2.1.2.1.1
  have h6 : nn ≤ 6 := hD.2.2.2.2.1.2.1.2.1
  have x0 : xcl X 0 = 8 := by
    unfold tgC at hc
    exact xc_of hc
  by_cases h : p < 0 ∨ ¬ p < nI nn
  · obtain ⟨kp, wc, sk, m1, m2⟩ := ivD_th (ivD_new (c := .inr (14, [])) (k := 6) hD)
    refine ⟨1, 0, xnew X (.inr (14, [])) 6, _, fun Q => ?_, fun Q => ?_, ⟨Kb, Ks, K, l, ep, T, tp, b, nm, s, a, t, g, q, co, ro, nk, nc, nn, cnt, rs, re, m2 1 kp wc sk⟩, fun h => absurd h (by decide), Or.inr ?_⟩
    · rw [e_L_sipsOf]
      simp only [s_L_sipsOf_0, s_L_sipsOf_1, s_L_sipsOf_2, s_L_sipsOf_3, s_L_sipsOf_4, x0, not_false_eq_true, Nat.reduceLT, Nat.reduceAdd, true_and, and_true, if_true, if_false, ite_true, ite_false, xnb_0, xnb_1, xnb_b, xk_v, xk_n, c_T_sipsOf hc hB hY hs h6, eq_true h, k_sipsOf_14, s_L_sipsOf_13, s_L_sipsOf_14]
    · refine (congrArg (fun Z => xcall E xprog (d + 4) 204 [.ref 63, .int p] Z Q) m1).trans ?_
      exact c_M_sipsOf_o (ivD_new (c := .inr (14, [])) (k := 6) hD).2.1.2.1 (ivD_new (c := .inr (14, [])) (k := 6) hD).2.1.2.2.1 hq h6 h
    · rfl
  · have h1 : ¬ p < 0 := fun r => h (Or.inl r)
    have h2 : p < nI nn := Decidable.byContradiction fun r => h (Or.inr r)
    obtain ⟨i, hi, rfl⟩ := rng_ex h6 h1 h2
    obtain ⟨f, hf⟩ := hD.2.1.2.2.2.2.2
    have hD2 := ivD_out (f := vp_updL f 0 (a 8 i).toInt64) hD
    obtain ⟨kp, wc, sk, m1, m2⟩ := ivD_th hD2
    refine ⟨0, a 8 i, xset X 78 (xarJ 1 (vp_updL f 0 (a 8 i).toInt64)), _, fun Q => ?_, fun Q => ?_, ⟨Kb, Ks, K, l, ep, T, tp, b, nm, s, a, t, g, q, co, ro, nk, nc, nn, cnt, rs, re, m2 0 kp wc sk⟩, fun _ => ⟨_, (mH_o 78 (by omega)).trans (xset_s 78 rfl), updL_s⟩, Or.inl rfl⟩
    · rw [e_L_sipsOf]
      simp only [s_L_sipsOf_0, s_L_sipsOf_1, s_L_sipsOf_2, s_L_sipsOf_3, s_L_sipsOf_4, s_L_sipsOf_7, s_L_sipsOf_8, s_L_sipsOf_9, s_L_sipsOf_15, s_L_sipsOf_16, x0, not_false_eq_true, Nat.reduceLT, Nat.reduceAdd, true_and, and_true, if_true, if_false, ite_true, ite_false, xnb_0, xnb_1, xnb_b, xk_v, xk_n, c_T_sipsOf hc hB hY hs h6, eq_false h, ncl (show i < 2147483648 by omega), xJl_of hf, xJf_of hf, show vp_in (0 : Int32) 1 = True from nvp (i := 0) (by omega) (by omega), show (0 : Int32).toNatClampNeg = 0 from rfl]
    · refine (congrArg (fun Z => xcall E xprog (d + 4) 204 [.ref 63, .int (nI i)] Z Q) m1).trans ?_
      rw [c_M_sipsOf_i hD2.2.1.2.1 hD2.2.1.2.2.1 hq h6 hi, nw_c5 hi]
end CLIP
