/-! ===== customs at a cell ===== -/
section CUST
variable {E : xE} {d n : Nat} {Q : xR → Prop} {X H : xH} {Kb Ks K l : Nat} {ep th : Int32} {T : Nat → Nat} {tp : Nat → Int32} {b : Nat → Nat → Int32} {nm : Nat → Int64} {s : Nat → Int32} {a : Nat → Nat → Int32} {t : Nat → Int32} {g : Nat → Nat → Int32} {q : Nat → Int32} {co ro nk nc nn cnt : Nat} {rs re : Nat → Nat} {nw kp wc sk : Nat → Int32} {sz ea : Int32}
theorem rng_12 {m : Nat} (h : m ≤ 12) {c : Int32} (h1 : ¬ c < 0) (h2 : c < nI m) : ∃ i, i < m ∧ c = nI i := by
  have e3 : (0 : Int32).toInt = 0 := by decide
  have e5 := c.toInt_lt
  rw [Int32.lt_iff_toInt_lt] at h1
  have e6 := nI_tn (x := c) (by omega)
  generalize hj : c.toInt.toNat = j at e6
  subst e6
  rw [n_lt (by omega) (by omega)] at h2
  exact ⟨j, h2, rfl⟩
theorem cel_ex (hT : kTwo b s g q co ro nk nc nn cnt rs re) {x y : Int32} (h : ¬ celC s x y = 0) : ∃ i j, i < co ∧ j < ro ∧ x = nI i ∧ y = nI j := by
  obtain ⟨s0, s1, c1, c2, r1, r2⟩ := hT.2.2.2.1
  have hp : ¬ x < 0 ∧ x < s 0 ∧ ¬ y < 0 ∧ y < s 1 := Decidable.byContradiction fun z => h (xb_f z)
  rw [s0, s1] at hp
  obtain ⟨i, hi, e1⟩ := rng_12 c2 hp.1 hp.2.1
  obtain ⟨j, hj, e2⟩ := rng_12 r2 hp.2.2.1 hp.2.2.2
  exact ⟨i, j, hi, hj, e1, e2⟩
theorem c_M_hasCustoms_i (hM : kM H K g q) (hK : mK K) (hT : kTwo b s g q co ro nk nc nn cnt rs re) {x y : Int32} (h : ¬ celC s x y = 0) : xcall E xprog (d + 4) 188 [.ref 63, .int x, .int y] (mH H K th sz ea tp nw kp wc sk) Q = Q (.inl (some (.int (cAt (b 5) (b 6) x y 0 nc))), mH H K 0 sz ea tp nw kp wc sk) := by
  obtain ⟨i, j, hi, hj, e1, e2⟩ := cel_ex hT h
  have q0 : q 0 = nI co := hT.1.1.trans hT.2.2.2.1.1
  have hz : nI co * nI j + nI i = nI (co * j + i) := by rw [nI_mu, nI_ad]
  have hn : (narrow .boolean (.int (cAt (b 5) (b 6) (nI i) (nI j) 0 nc)) = .int (cAt (b 5) (b 6) (nI i) (nI j) 0 nc)) = True := by
    rcases cAt_01 (kc := b 5) (kr := b 6) (x := nI i) (y := nI j) nc 0 with r | r <;> rw [r]
    · exact xnb_0
    · exact xnb_1
  subst e1 e2
  rw [e_M_hasCustoms]
  simp only [s_M_hasCustoms_0, s_M_hasCustoms_1, s_M_hasCustoms_2, s_M_hasCustoms_5, s_M_hasCustoms_6, s_M_hasCustoms_7, s_M_hasCustoms_8, s_M_hasCustoms_11, s_M_hasCustoms_14, s_M_hasCustoms_15, s_M_hasCustoms_18, s_M_hasCustoms_19, s_M_hasCustoms_22, s_M_hasCustoms_25, s_M_hasCustoms_26, s_M_hasCustoms_27, s_M_hasCustoms_28, s_M_hasCustoms_29, s_M_hasCustoms_32, s_M_hasCustoms_35, s_M_hasCustoms_36, s_M_hasCustoms_37, s_M_hasCustoms_40, mF, mC, ml_64, mf_64, mw_63, mw_64, ml_74, mf_74, mw_74, ml_75, mf_75, mw_75, ml_76, mf_76, mw_76, ml_77, mf_77, mw_77, xll_11, xlg_11_0, xlg_11_1, xlg_11_2, xlg_11_3, xlg_11_4, xlg_11_5, xlg_11_6, xlg_11_7, xlg_11_8, xls_11_0, xls_11_1, xls_11_2, xls_11_3, xls_11_4, xls_11_5, xls_11_6, xls_11_7, xls_11_8, nF hM hK, nC hM hK, nl_0 hM hK, nl_1 hM hK, nl_2 hM hK, nl_3 hM hK, nl_4 hM hK, nl_5 hM hK, nl_6 hM hK, nl_7 hM hK, nf_0 hM hK, nf_1 hM hK, nf_2 hM hK, nf_3 hM hK, nf_4 hM hK, nf_5 hM hK, nf_6 hM hK, nf_7 hM hK, xll_9, xlg_9_0, xlg_9_1, xlg_9_2, xlg_9_3, xlg_9_4, xlg_9_5, xlg_9_6, xlg_9_7, xlg_9_8, xlg_9_9, xlg_9_10, xlg_9_11, xlg_9_12, xlg_9_13, not_false_eq_true, Nat.reduceLT, Nat.reduceAdd, true_and, and_true, if_true, if_false, ite_true, ite_false, xnb_0, xnb_1, xnb_b, xk_v, xk_n, h_M_isCell hM hK nk hT.1, eq_false h, q0, hz, f_MB_hasCustoms hM hK hT hi hj, hn]
theorem c_M_hasCustoms_o (hM : kM H K g q) (hK : mK K) (hR : kRk b s g q nk) {x y : Int32} (h : celC s x y = 0) : xcall E xprog (d + 4) 188 [.ref 63, .int x, .int y] (mH H K th sz ea tp nw kp wc sk) Q = Q (.inl (some (.int 0)), mH H K 1 sz ea tp nw kp wc sk) := by
  rw [e_M_hasCustoms]
  simp only [s_M_hasCustoms_0, s_M_hasCustoms_1, s_M_hasCustoms_2, s_M_hasCustoms_5, s_M_hasCustoms_6, s_M_hasCustoms_7, s_M_hasCustoms_8, s_M_hasCustoms_11, s_M_hasCustoms_14, s_M_hasCustoms_15, s_M_hasCustoms_18, s_M_hasCustoms_19, s_M_hasCustoms_22, s_M_hasCustoms_25, s_M_hasCustoms_26, s_M_hasCustoms_27, s_M_hasCustoms_28, s_M_hasCustoms_29, s_M_hasCustoms_32, s_M_hasCustoms_35, s_M_hasCustoms_36, s_M_hasCustoms_37, s_M_hasCustoms_40, mF, mC, ml_64, mf_64, mw_63, mw_64, ml_74, mf_74, mw_74, ml_75, mf_75, mw_75, ml_76, mf_76, mw_76, ml_77, mf_77, mw_77, xll_11, xlg_11_0, xlg_11_1, xlg_11_2, xlg_11_3, xlg_11_4, xlg_11_5, xlg_11_6, xlg_11_7, xlg_11_8, xls_11_0, xls_11_1, xls_11_2, xls_11_3, xls_11_4, xls_11_5, xls_11_6, xls_11_7, xls_11_8, nF hM hK, nC hM hK, nl_0 hM hK, nl_1 hM hK, nl_2 hM hK, nl_3 hM hK, nl_4 hM hK, nl_5 hM hK, nl_6 hM hK, nl_7 hM hK, nf_0 hM hK, nf_1 hM hK, nf_2 hM hK, nf_3 hM hK, nf_4 hM hK, nf_5 hM hK, nf_6 hM hK, nf_7 hM hK, xll_9, xlg_9_0, xlg_9_1, xlg_9_2, xlg_9_3, xlg_9_4, xlg_9_5, xlg_9_6, xlg_9_7, xlg_9_8, xlg_9_9, xlg_9_10, xlg_9_11, xlg_9_12, xlg_9_13, not_false_eq_true, Nat.reduceLT, Nat.reduceAdd, true_and, and_true, if_true, if_false, ite_true, ite_false, xnb_0, xnb_1, xnb_b, xk_v, xk_n, h_M_isCell hM hK nk hR, eq_true h, e_M_failed, s_M_failed_0, s_M_failed_1, s_M_failed_2, s_M_failed_5, s_M_failed_6]
theorem c_T_hasCustoms (hc : X.1 0 = tgC Kb Ks ep) (hB : kB X Kb b nm s) (hs : s 3 = nI nc) (h6 : nc ≤ 6) (x y : Int32) : xcall E xprog (d + 3) 77 [.ref 0, .int x, .int y] X Q = if celC s x y = 0 then Q (.inr 14, xnew X (.inr (14, [])) 6) else Q (.inl (some (.int (cAt (b 5) (b 6) x y 0 nc))), X) := by
  have z := fun (Q : xR → Prop) => f_T_needCell (E := E) (d := d) (Q := Q) hc hB x y
  have b0 := hB.1
  have hn : (narrow .boolean (.int (cAt (b 5) (b 6) x y 0 nc)) = .int (cAt (b 5) (b 6) x y 0 nc)) = True := by
    rcases cAt_01 (kc := b 5) (kr := b 6) (x := x) (y := y) nc 0 with r | r <;> rw [r]
    · exact xnb_0
    · exact xnb_1
  unfold tgC at hc
  rw [e_T_hasCustoms]
  by_cases h : celC s x y = 0
  · simp only [s_T_hasCustoms_0, s_T_hasCustoms_1, s_T_hasCustoms_2, s_T_hasCustoms_3, s_T_hasCustoms_6, s_T_hasCustoms_7, s_T_hasCustoms_10, s_T_hasCustoms_11, s_T_hasCustoms_12, s_T_hasCustoms_15, xc_of hc, not_false_eq_true, Nat.reduceLT, Nat.reduceAdd, true_and, and_true, if_true, if_false, ite_true, ite_false, xnb_0, xnb_1, xnb_b, xk_v, xk_n, z, eq_true h, xk_x (y := m_T_hasCustoms) rfl]
  · simp only [s_T_hasCustoms_0, s_T_hasCustoms_1, s_T_hasCustoms_2, s_T_hasCustoms_3, s_T_hasCustoms_6, s_T_hasCustoms_7, s_T_hasCustoms_10, s_T_hasCustoms_11, s_T_hasCustoms_12, s_T_hasCustoms_15, xc_of hc, xf_of hc, xll_8, xlg_8_0, xlg_8_1, xlg_8_2, xlg_8_3, xlg_8_4, xlg_8_5, xlg_8_6, xc_of b0, not_false_eq_true, Nat.reduceLT, Nat.reduceAdd, true_and, and_true, if_true, if_false, ite_true, ite_false, xnb_0, xnb_1, xnb_b, xk_v, xk_n, z, eq_false h, f_Bk_hasCustomsAt hB nc hs h6, hn]
theorem st_hasCustoms (hI : IV n X) (x y : Int32) : ∃ (k v : Int32) (X1 X2 : xH), (∀ Q, xcall E xprog (d + 4) 233 [.ref 0, .int x, .int y, .ref 78] X Q = Q (.inl (some (.int k)), X1)) ∧
    (∀ Q, xcall E xprog (d + 4) 188 [.ref 63, .int x, .int y] X1 Q = Q (.inl (some (.int v)), X2)) ∧ IVk n k X2 ∧ (k = 0 → ∃ f : Nat → Int64, X2.1 78 = xarJ 1 f ∧ ((v = 1 ∧ f 0 = 1) ∨ (v = 0 ∧ f 0 = 0))) ∧ (X2.2 = X.2 ∨ X2.2 = (X.2.1 + 1, X.2.2 + 6)) := by
  obtain ⟨Kb, Ks, K, l, ep, th, T, tp, b, nm, s, a, t, g, q, co, ro, nk, nc, nn, cnt, rs, re, hD⟩ := hI
  obtain ⟨hc, _, _, hB, _, hY, _, _⟩ := id hD.1
  have hT := hD.2.2.2.2.1
  have hs : s 3 = nI nc := hT.2.2.1.2.2.1
  have h6 : nc ≤ 6 := hT.2.2.1.2.2.2.1
  have x0 : xcl X 0 = 8 := by
    unfold tgC at hc
    exact xc_of hc
  by_cases h : celC s x y = 0
  · obtain ⟨kp, wc, sk, m1, m2⟩ := ivD_th (ivD_new (c := .inr (14, [])) (k := 6) hD)
    refine ⟨1, 0, xnew X (.inr (14, [])) 6, _, fun Q => ?_, fun Q => ?_, ⟨Kb, Ks, K, l, ep, T, tp, b, nm, s, a, t, g, q, co, ro, nk, nc, nn, cnt, rs, re, m2 1 kp wc sk⟩, fun h => absurd h (by decide), Or.inr ?_⟩
    · rw [e_L_hasCustoms]
      simp only [s_L_hasCustoms_0, s_L_hasCustoms_1, s_L_hasCustoms_2, s_L_hasCustoms_3, s_L_hasCustoms_4, s_L_hasCustoms_5, s_L_hasCustoms_8, s_L_hasCustoms_11, s_L_hasCustoms_12, s_L_hasCustoms_15, s_L_hasCustoms_16, s_L_hasCustoms_17, s_L_hasCustoms_22, s_L_hasCustoms_23, s_L_hasCustoms_24, s_L_hasCustoms_25, x0, not_false_eq_true, Nat.reduceLT, Nat.reduceAdd, true_and, and_true, if_true, if_false, ite_true, ite_false, xnb_0, xnb_1, xnb_b, xk_v, xk_n, c_T_hasCustoms hc hB hs h6, eq_true h, k_hasCustoms_14]
    · refine (congrArg (fun Z => xcall E xprog (d + 4) 188 [.ref 63, .int x, .int y] Z Q) m1).trans ?_
      exact c_M_hasCustoms_o (ivD_new (c := .inr (14, [])) (k := 6) hD).2.1.2.1 (ivD_new (c := .inr (14, [])) (k := 6) hD).2.1.2.2.1 hT.1 h
    · rfl
  · obtain ⟨f, hf⟩ := hD.2.1.2.2.2.2.2
    rcases cAt_01 (kc := b 5) (kr := b 6) (x := x) (y := y) nc 0 with r | r
    · have hD2 := ivD_out (f := vp_updL f 0 0) hD
      obtain ⟨kp, wc, sk, m1, m2⟩ := ivD_th hD2
      refine ⟨0, 0, xset X 78 (xarJ 1 (vp_updL f 0 0)), _, fun Q => ?_, fun Q => ?_, ⟨Kb, Ks, K, l, ep, T, tp, b, nm, s, a, t, g, q, co, ro, nk, nc, nn, cnt, rs, re, m2 0 kp wc sk⟩, fun _ => ⟨_, (mH_o 78 (by omega)).trans (xset_s 78 rfl), Or.inr ⟨rfl, updL_s⟩⟩, Or.inl rfl⟩
      · rw [e_L_hasCustoms]
        simp only [s_L_hasCustoms_0, s_L_hasCustoms_1, s_L_hasCustoms_2, s_L_hasCustoms_3, s_L_hasCustoms_4, s_L_hasCustoms_5, s_L_hasCustoms_8, s_L_hasCustoms_11, s_L_hasCustoms_12, s_L_hasCustoms_15, s_L_hasCustoms_16, s_L_hasCustoms_17, s_L_hasCustoms_22, s_L_hasCustoms_23, s_L_hasCustoms_24, s_L_hasCustoms_25, x0, not_false_eq_true, Nat.reduceLT, Nat.reduceAdd, true_and, and_true, if_true, if_false, ite_true, ite_false, xnb_0, xnb_1, xnb_b, xk_v, xk_n, c_T_hasCustoms hc hB hs h6, eq_false h, r, xJl_of hf, xJf_of hf, show vp_in (0 : Int32) 1 = True from nvp (i := 0) (by omega) (by omega), show (0 : Int32).toNatClampNeg = 0 from rfl]
      · refine (congrArg (fun Z => xcall E xprog (d + 4) 188 [.ref 63, .int x, .int y] Z Q) m1).trans ?_
        rw [c_M_hasCustoms_i hD2.2.1.2.1 hD2.2.1.2.2.1 hT h, r]
    · have hD2 := ivD_out (f := vp_updL f 0 1) hD
      obtain ⟨kp, wc, sk, m1, m2⟩ := ivD_th hD2
      refine ⟨0, 1, xset X 78 (xarJ 1 (vp_updL f 0 1)), _, fun Q => ?_, fun Q => ?_, ⟨Kb, Ks, K, l, ep, T, tp, b, nm, s, a, t, g, q, co, ro, nk, nc, nn, cnt, rs, re, m2 0 kp wc sk⟩, fun _ => ⟨_, (mH_o 78 (by omega)).trans (xset_s 78 rfl), Or.inl ⟨rfl, updL_s⟩⟩, Or.inl rfl⟩
      · rw [e_L_hasCustoms]
        simp only [s_L_hasCustoms_0, s_L_hasCustoms_1, s_L_hasCustoms_2, s_L_hasCustoms_3, s_L_hasCustoms_4, s_L_hasCustoms_5, s_L_hasCustoms_8, s_L_hasCustoms_11, s_L_hasCustoms_12, s_L_hasCustoms_15, s_L_hasCustoms_16, s_L_hasCustoms_17, s_L_hasCustoms_22, s_L_hasCustoms_23, s_L_hasCustoms_24, s_L_hasCustoms_25, x0, not_false_eq_true, Nat.reduceLT, Nat.reduceAdd, true_and, and_true, if_true, if_false, ite_true, ite_false, xnb_0, xnb_1, xnb_b, xk_v, xk_n, c_T_hasCustoms hc hB hs h6, eq_false h, r, show ((1 : Int32) = 0) = False from eq_false (by decide), xJl_of hf, xJf_of hf, show vp_in (0 : Int32) 1 = True from nvp (i := 0) (by omega) (by omega), show (0 : Int32).toNatClampNeg = 0 from rfl]
      · refine (congrArg (fun Z => xcall E xprog (d + 4) 188 [.ref 63, .int x, .int y] Z Q) m1).trans ?_
        rw [c_M_hasCustoms_i hD2.2.1.2.1 hD2.2.1.2.2.1 hT h, r]
end CUST
