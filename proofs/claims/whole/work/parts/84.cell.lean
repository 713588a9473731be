/-! ===== what is asked of a cell: its aroma ===== -/
section CELL
variable {E : xE} {d n : Nat} {Q : xR → Prop} {X H : xH} {Kb Ks K l : Nat} {ep th : Int32} {T : Nat → Nat} {tp : Nat → Int32} {b : Nat → Nat → Int32} {nm : Nat → Int64} {s : Nat → Int32} {a : Nat → Nat → Int32} {t : Nat → Int32} {g : Nat → Nat → Int32} {q : Nat → Int32} {co ro nk nc nn cnt : Nat} {rs re : Nat → Nat} {nw kp wc sk : Nat → Int32} {sz ea : Int32}
theorem f_T_needCell (hc : X.1 0 = tgC Kb Ks ep) (hB : kB X Kb b nm s) (x y : Int32) : xcall E xprog (d + 2) 111 [.ref 0, .int x, .int y] X Q = if celC s x y = 0 then Q (.inr 14, xnew X (.inr (14, [])) 6) else Q (.inl none, X) := by
  have z := fun (Q : xR → Prop) => f_cell (E := E) (d := d) (Q := Q) hB x y
  have b0 := hB.1
  unfold tgC at hc
  rw [e_T_needCell]
  simp only [s_T_needCell_0, s_T_needCell_1, s_T_needCell_4, s_T_needCell_5, s_T_needCell_6, s_T_needCell_9, s_T_needCell_12, s_T_needCell_22, xf_of hc, xll_8, xlg_8_0, xlg_8_1, xlg_8_2, xlg_8_3, xlg_8_4, xlg_8_5, xlg_8_6, xc_of b0, not_false_eq_true, Nat.reduceLT, Nat.reduceAdd, true_and, and_true, if_true, if_false, ite_true, ite_false, xnb_0, xnb_1, xnb_b, xk_v, xk_n, z, t_T_needCell_21]
theorem c_M_aromaAt_i (hM : kM H K g q) (hK : mK K) (hR : kRk b s g q nk) (ha : bOK a nk) {x y : Int32} (h : ¬ celC s x y = 0) : xcall E xprog (d + 4) 190 [.ref 63, .int x, .int y] (mH H K th sz ea tp (nwO nn a t) kp wc sk) Q = Q (.inl (some (.int (aroC a t b nk x y))), mH H K 0 sz ea tp (nwO nn a t) kp wc sk) := by
  rw [e_M_aromaAt]
  simp only [s_M_aromaAt_0, s_M_aromaAt_1, s_M_aromaAt_2, s_M_aromaAt_5, s_M_aromaAt_6, s_M_aromaAt_7, s_M_aromaAt_8, s_M_aromaAt_11, s_M_aromaAt_14, s_M_aromaAt_15, s_M_aromaAt_16, s_M_aromaAt_17, s_M_aromaAt_20, s_M_aromaAt_23, s_M_aromaAt_24, s_M_aromaAt_25, s_M_aromaAt_28, mF, mC, ml_64, mf_64, mw_63, mw_64, ml_74, mf_74, mw_74, ml_75, mf_75, mw_75, ml_76, mf_76, mw_76, ml_77, mf_77, mw_77, xll_11, xlg_11_0, xlg_11_1, xlg_11_2, xlg_11_3, xlg_11_4, xlg_11_5, xlg_11_6, xlg_11_7, xlg_11_8, xls_11_0, xls_11_1, xls_11_2, xls_11_3, xls_11_4, xls_11_5, xls_11_6, xls_11_7, xls_11_8, nF hM hK, nC hM hK, nl_0 hM hK, nl_1 hM hK, nl_2 hM hK, nl_3 hM hK, nl_4 hM hK, nl_5 hM hK, nl_6 hM hK, nl_7 hM hK, nf_0 hM hK, nf_1 hM hK, nf_2 hM hK, nf_3 hM hK, nf_4 hM hK, nf_5 hM hK, nf_6 hM hK, nf_7 hM hK, xll_9, xlg_9_0, xlg_9_1, xlg_9_2, xlg_9_3, xlg_9_4, xlg_9_5, xlg_9_6, xlg_9_7, xlg_9_8, xlg_9_9, xlg_9_10, xlg_9_11, xlg_9_12, xlg_9_13, not_false_eq_true, Nat.reduceLT, Nat.reduceAdd, true_and, and_true, if_true, if_false, ite_true, ite_false, xnb_0, xnb_1, xnb_b, xk_v, xk_n, h_M_isCell hM hK nk hR, eq_false h, h_M_aroma hM hK nk nn hR ha]
theorem c_M_aromaAt_o (hM : kM H K g q) (hK : mK K) (hR : kRk b s g q nk) {x y : Int32} (h : celC s x y = 0) : xcall E xprog (d + 4) 190 [.ref 63, .int x, .int y] (mH H K th sz ea tp nw kp wc sk) Q = Q (.inl (some (.int 0)), mH H K 1 sz ea tp nw kp wc sk) := by
  rw [e_M_aromaAt]
  simp only [s_M_aromaAt_0, s_M_aromaAt_1, s_M_aromaAt_2, s_M_aromaAt_5, s_M_aromaAt_6, s_M_aromaAt_7, s_M_aromaAt_8, s_M_aromaAt_11, s_M_aromaAt_14, s_M_aromaAt_15, s_M_aromaAt_16, s_M_aromaAt_17, s_M_aromaAt_20, s_M_aromaAt_23, s_M_aromaAt_24, s_M_aromaAt_25, s_M_aromaAt_28, mF, mC, ml_64, mf_64, mw_63, mw_64, ml_74, mf_74, mw_74, ml_75, mf_75, mw_75, ml_76, mf_76, mw_76, ml_77, mf_77, mw_77, xll_11, xlg_11_0, xlg_11_1, xlg_11_2, xlg_11_3, xlg_11_4, xlg_11_5, xlg_11_6, xlg_11_7, xlg_11_8, xls_11_0, xls_11_1, xls_11_2, xls_11_3, xls_11_4, xls_11_5, xls_11_6, xls_11_7, xls_11_8, nF hM hK, nC hM hK, nl_0 hM hK, nl_1 hM hK, nl_2 hM hK, nl_3 hM hK, nl_4 hM hK, nl_5 hM hK, nl_6 hM hK, nl_7 hM hK, nf_0 hM hK, nf_1 hM hK, nf_2 hM hK, nf_3 hM hK, nf_4 hM hK, nf_5 hM hK, nf_6 hM hK, nf_7 hM hK, xll_9, xlg_9_0, xlg_9_1, xlg_9_2, xlg_9_3, xlg_9_4, xlg_9_5, xlg_9_6, xlg_9_7, xlg_9_8, xlg_9_9, xlg_9_10, xlg_9_11, xlg_9_12, xlg_9_13, not_false_eq_true, Nat.reduceLT, Nat.reduceAdd, true_and, and_true, if_true, if_false, ite_true, ite_false, xnb_0, xnb_1, xnb_b, xk_v, xk_n, h_M_isCell hM hK nk hR, eq_true h, e_M_fail, s_M_fail_0, s_M_fail_1, s_M_fail_2, s_M_fail_5, s_M_fail_6]
theorem c_T_aromaAt (hc : X.1 0 = tgC Kb Ks ep) (hB : kB X Kb b nm s) (hY : kY X 43 Kb a t) (hs : s 2 = nI nk) (h6 : nk ≤ 6) (x y : Int32) : xcall E xprog (d + 3) 79 [.ref 0, .int x, .int y] X Q = if celC s x y = 0 then Q (.inr 14, xnew X (.inr (14, [])) 6) else Q (.inl (some (.int (aroC a t b nk x y))), X) := by
  have z := fun (Q : xR → Prop) => f_T_needCell (E := E) (d := d) (Q := Q) hc hB x y
  have y0 := hY.1
  unfold tgC at hc
  rw [e_T_aromaAt]
  by_cases h : celC s x y = 0
  · simp only [s_T_aromaAt_0, s_T_aromaAt_1, s_T_aromaAt_2, s_T_aromaAt_3, s_T_aromaAt_6, s_T_aromaAt_7, s_T_aromaAt_10, s_T_aromaAt_11, s_T_aromaAt_12, s_T_aromaAt_15, xc_of hc, not_false_eq_true, Nat.reduceLT, Nat.reduceAdd, true_and, and_true, if_true, if_false, ite_true, ite_false, xnb_0, xnb_1, xnb_b, xk_v, xk_n, z, eq_true h, xk_x (y := m_T_aromaAt) rfl]
  · simp only [s_T_aromaAt_0, s_T_aromaAt_1, s_T_aromaAt_2, s_T_aromaAt_3, s_T_aromaAt_6, s_T_aromaAt_7, s_T_aromaAt_10, s_T_aromaAt_11, s_T_aromaAt_12, s_T_aromaAt_15, xc_of hc, xf_of hc, xll_8, xlg_8_0, xlg_8_1, xlg_8_2, xlg_8_3, xlg_8_4, xlg_8_5, xlg_8_6, xc_of y0, not_false_eq_true, Nat.reduceLT, Nat.reduceAdd, true_and, and_true, if_true, if_false, ite_true, ite_false, xnb_0, xnb_1, xnb_b, xk_v, xk_n, z, eq_false h, f_Bay_aroma hB hY nk hs h6]
theorem st_aromaAt (hI : IV n X) (x y : Int32) : ∃ (k v : Int32) (X1 X2 : xH), (∀ Q, xcall E xprog (d + 4) 235 [.ref 0, .int x, .int y, .ref 78] X Q = Q (.inl (some (.int k)), X1)) ∧
    (∀ Q, xcall E xprog (d + 4) 190 [.ref 63, .int x, .int y] X1 Q = Q (.inl (some (.int v)), X2)) ∧ IVk n k X2 ∧ (k = 0 → ∃ f : Nat → Int64, X2.1 78 = xarJ 1 f ∧ f 0 = v.toInt64) ∧ (X2.2 = X.2 ∨ X2.2 = (X.2.1 + 1, X.2.2 + 6)) := by
  obtain ⟨Kb, Ks, K, l, ep, th, T, tp, b, nm, s, a, t, g, q, co, ro, nk, nc, nn, cnt, rs, re, hD⟩ := hI
  obtain ⟨hc, _, _, hB, _, hY, _, _⟩ := id hD.1
  have hs : s 2 = nI nk := hD.2.2.2.2.1.2.2.1.1
  have hR : kRk b s g q nk := hD.2.2.2.2.1.1
  have ha : bOK a nk := kSt_b hD.2.2.2.2.2
  have h6 : nk ≤ 6 := hR.2.2.2.1
  have x0 : xcl X 0 = 8 := by
    unfold tgC at hc
    exact xc_of hc
  by_cases h : celC s x y = 0
  · obtain ⟨kp, wc, sk, m1, m2⟩ := ivD_th (ivD_new (c := .inr (14, [])) (k := 6) hD)
    refine ⟨1, 0, xnew X (.inr (14, [])) 6, _, fun Q => ?_, fun Q => ?_, ⟨Kb, Ks, K, l, ep, T, tp, b, nm, s, a, t, g, q, co, ro, nk, nc, nn, cnt, rs, re, m2 1 kp wc sk⟩, fun h => absurd h (by decide), Or.inr ?_⟩
    · rw [e_L_aromaAt]
      simp only [s_L_aromaAt_0, s_L_aromaAt_1, s_L_aromaAt_2, s_L_aromaAt_3, s_L_aromaAt_4, s_L_aromaAt_5, s_L_aromaAt_8, s_L_aromaAt_9, s_L_aromaAt_10, s_L_aromaAt_15, s_L_aromaAt_16, s_L_aromaAt_17, s_L_aromaAt_18, x0, not_false_eq_true, Nat.reduceLT, Nat.reduceAdd, true_and, and_true, if_true, if_false, ite_true, ite_false, xnb_0, xnb_1, xnb_b, xk_v, xk_n, c_T_aromaAt hc hB hY hs h6, eq_true h, k_aromaAt_14]
    · refine (congrArg (fun Z => xcall E xprog (d + 4) 190 [.ref 63, .int x, .int y] Z Q) m1).trans ?_
      exact c_M_aromaAt_o (ivD_new (c := .inr (14, [])) (k := 6) hD).2.1.2.1 (ivD_new (c := .inr (14, [])) (k := 6) hD).2.1.2.2.1 hR h
    · rfl
  · obtain ⟨f, hf⟩ := hD.2.1.2.2.2.2.2
    have hD2 := ivD_out (f := vp_updL f 0 (aroC a t b nk x y).toInt64) hD
    obtain ⟨kp, wc, sk, m1, m2⟩ := ivD_th hD2
    refine ⟨0, aroC a t b nk x y, xset X 78 (xarJ 1 (vp_updL f 0 (aroC a t b nk x y).toInt64)), _, fun Q => ?_, fun Q => ?_, ⟨Kb, Ks, K, l, ep, T, tp, b, nm, s, a, t, g, q, co, ro, nk, nc, nn, cnt, rs, re, m2 0 kp wc sk⟩, fun _ => ⟨_, (mH_o 78 (by omega)).trans (xset_s 78 rfl), updL_s⟩, Or.inl rfl⟩
    · rw [e_L_aromaAt]
      simp only [s_L_aromaAt_0, s_L_aromaAt_1, s_L_aromaAt_2, s_L_aromaAt_3, s_L_aromaAt_4, s_L_aromaAt_5, s_L_aromaAt_8, s_L_aromaAt_9, s_L_aromaAt_10, s_L_aromaAt_15, s_L_aromaAt_16, s_L_aromaAt_17, s_L_aromaAt_18, x0, not_false_eq_true, Nat.reduceLT, Nat.reduceAdd, true_and, and_true, if_true, if_false, ite_true, ite_false, xnb_0, xnb_1, xnb_b, xk_v, xk_n, c_T_aromaAt hc hB hY hs h6, eq_false h, xJl_of hf, xJf_of hf, show vp_in (0 : Int32) 1 = True from nvp (i := 0) (by omega) (by omega), show (0 : Int32).toNatClampNeg = 0 from rfl]
    · refine (congrArg (fun Z => xcall E xprog (d + 4) 190 [.ref 63, .int x, .int y] Z Q) m1).trans ?_
      rw [c_M_aromaAt_i hD2.2.1.2.1 hD2.2.1.2.2.1 hR ha h]
end CELL
