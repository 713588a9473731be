/-! ===== whether a clipper is home ===== -/
section HOME
variable {E : xE} {d n : Nat} {Q : xR → Prop} {X H : xH} {Kb Ks K l : Nat} {ep th : Int32} {T : Nat → Nat} {tp : Nat → Int32} {b : Nat → Nat → Int32} {nm : Nat → Int64} {s : Nat → Int32} {a : Nat → Nat → Int32} {t : Nat → Int32} {g : Nat → Nat → Int32} {q : Nat → Int32} {co ro nk nc nn cnt : Nat} {rs re : Nat → Nat} {nw kp wc sk : Nat → Int32} {sz ea : Int32}
theorem c_M_isHome_i (hM : kM H K g q) (hK : mK K) (hC : kRc b s g q nn rs re) {i : Nat} (hi : i < nn) : xcall E xprog (d + 4) 199 [.ref 63, .int (nI i)] (mH H K th sz ea tp (nwO nn a t) kp wc sk) Q = Q (.inl (some (.int (xb (a 3 i = b 7 i ∧ a 4 i = b 8 i)))), mH H K 0 sz ea tp (nwO nn a t) kp wc sk) := by
  have h6 := hC.2.1
  have hx : (¬ nI i < 0 ∧ ¬ q 4 - 1 < nI i) := by
    rw [hC.1]
    refine (rng_in h6 _).mpr ⟨?_, ?_⟩
    · rw [nI_n0 i (by omega)]; exact id
    · rw [n_lt (by omega) (by omega)]; exact hi
  rw [e_M_isHome]
  simp only [s_M_isHome_0, s_M_isHome_1, s_M_isHome_2, s_M_isHome_5, s_M_isHome_6, s_M_isHome_7, s_M_isHome_10, s_M_isHome_13, s_M_isHome_14, s_M_isHome_15, s_M_isHome_18, s_M_isHome_21, s_M_isHome_22, s_M_isHome_23, s_M_isHome_26, mF, mC, ml_64, mf_64, mw_63, mw_64, ml_74, mf_74, mw_74, ml_75, mf_75, mw_75, ml_76, mf_76, mw_76, ml_77, mf_77, mw_77, xll_11, xlg_11_0, xlg_11_1, xlg_11_2, xlg_11_3, xlg_11_4, xlg_11_5, xlg_11_6, xlg_11_7, xlg_11_8, xls_11_0, xls_11_1, xls_11_2, xls_11_3, xls_11_4, xls_11_5, xls_11_6, xls_11_7, xls_11_8, nF hM hK, nC hM hK, nl_0 hM hK, nl_1 hM hK, nl_2 hM hK, nl_3 hM hK, nl_4 hM hK, nl_5 hM hK, nl_6 hM hK, nl_7 hM hK, nf_0 hM hK, nf_1 hM hK, nf_2 hM hK, nf_3 hM hK, nf_4 hM hK, nf_5 hM hK, nf_6 hM hK, nf_7 hM hK, xll_9, xlg_9_0, xlg_9_1, xlg_9_2, xlg_9_3, xlg_9_4, xlg_9_5, xlg_9_6, xlg_9_7, xlg_9_8, xlg_9_9, xlg_9_10, xlg_9_11, xlg_9_12, xlg_9_13, not_false_eq_true, Nat.reduceLT, Nat.reduceAdd, true_and, and_true, if_true, if_false, ite_true, ite_false, xnb_0, xnb_1, xnb_b, xk_v, xk_n, f_M_isClipper hM hK, xb_t hx, show ((1 : Int32) = 0) = False from eq_false (by decide), f_M_isAtHome hM hK nn rs re hC i hi]
theorem c_M_isHome_o (hM : kM H K g q) (hK : mK K) (hC : kRc b s g q nn rs re) {c : Int32} (hc : c < 0 ∨ ¬ c < nI nn) : xcall E xprog (d + 4) 199 [.ref 63, .int c] (mH H K th sz ea tp nw kp wc sk) Q = Q (.inl (some (.int 0)), mH H K 1 sz ea tp nw kp wc sk) := by
  have hx : ¬ (¬ c < 0 ∧ ¬ q 4 - 1 < c) := by
    rw [hC.1]
    intro h
    obtain ⟨h1, h2⟩ := (rng_in hC.2.1 _).mp h
    rcases hc with r | r
    · exact h1 r
    · exact r h2
  rw [e_M_isHome]
  simp only [s_M_isHome_0, s_M_isHome_1, s_M_isHome_2, s_M_isHome_5, s_M_isHome_6, s_M_isHome_7, s_M_isHome_10, s_M_isHome_13, s_M_isHome_14, s_M_isHome_15, s_M_isHome_18, s_M_isHome_21, s_M_isHome_22, s_M_isHome_23, s_M_isHome_26, mF, mC, ml_64, mf_64, mw_63, mw_64, ml_74, mf_74, mw_74, ml_75, mf_75, mw_75, ml_76, mf_76, mw_76, ml_77, mf_77, mw_77, xll_11, xlg_11_0, xlg_11_1, xlg_11_2, xlg_11_3, xlg_11_4, xlg_11_5, xlg_11_6, xlg_11_7, xlg_11_8, xls_11_0, xls_11_1, xls_11_2, xls_11_3, xls_11_4, xls_11_5, xls_11_6, xls_11_7, xls_11_8, nF hM hK, nC hM hK, nl_0 hM hK, nl_1 hM hK, nl_2 hM hK, nl_3 hM hK, nl_4 hM hK, nl_5 hM hK, nl_6 hM hK, nl_7 hM hK, nf_0 hM hK, nf_1 hM hK, nf_2 hM hK, nf_3 hM hK, nf_4 hM hK, nf_5 hM hK, nf_6 hM hK, nf_7 hM hK, xll_9, xlg_9_0, xlg_9_1, xlg_9_2, xlg_9_3, xlg_9_4, xlg_9_5, xlg_9_6, xlg_9_7, xlg_9_8, xlg_9_9, xlg_9_10, xlg_9_11, xlg_9_12, xlg_9_13, not_false_eq_true, Nat.reduceLT, Nat.reduceAdd, true_and, and_true, if_true, if_false, ite_true, ite_false, xnb_0, xnb_1, xnb_b, xk_v, xk_n, f_M_isClipper hM hK, xb_f hx, e_M_failed, s_M_failed_0, s_M_failed_1, s_M_failed_2, s_M_failed_5, s_M_failed_6]
theorem c_T_isHome_o (hc : X.1 0 = tgC Kb Ks ep) (hB : kB X Kb b nm s) (hs : s 4 = nI nn) {c : Int32} (h : c < 0 ∨ ¬ c < nI nn) : xcall E xprog (d + 3) 87 [.ref 0, .int c] X Q = Q (.inr 14, xnew X (.inr (14, [])) 6) := by
  have z := fun (Q : xR → Prop) => f_T_needClipper (E := E) (d := d + 1) (Q := Q) hc hB c
  rw [hs] at z
  unfold tgC at hc
  rw [e_T_isHome]
  simp only [s_T_isHome_0, s_T_isHome_1, s_T_isHome_2, xc_of hc, not_false_eq_true, Nat.reduceLT, Nat.reduceAdd, true_and, and_true, if_true, if_false, ite_true, ite_false, xnb_0, xnb_1, xnb_b, xk_v, xk_n, z, eq_true h, xk_x (y := m_T_isHome) rfl]
theorem c_T_isHome_i (hc : X.1 0 = tgC Kb Ks ep) (hB : kB X Kb b nm s) (hY : kY X 43 Kb a t) (hs : s 4 = nI nn) (h6 : nn ≤ 6) {i : Nat} (hi : i < nn) : xcall E xprog (d + 3) 87 [.ref 0, .int (nI i)] X Q = Q (.inl (some (.int (xb (a 3 i = b 7 i ∧ a 4 i = b 8 i)))), X) := by
  have z := fun (Q : xR → Prop) => f_T_needClipper (E := E) (d := d + 1) (Q := Q) hc hB (nI i)
  rw [hs] at z
  have h : ¬ (nI i < 0 ∨ ¬ nI i < nI nn) := by
    rw [nI_n0 i (by omega), n_lt (by omega) (by omega)]
    exact fun r => r.elim id (fun z => z hi)
  unfold tgC at hc
  have y0 := hY.1
  rw [e_T_isHome]
  simp only [s_T_isHome_0, s_T_isHome_1, s_T_isHome_2, s_T_isHome_5, s_T_isHome_6, s_T_isHome_9, s_T_isHome_10, s_T_isHome_13, xc_of hc, xf_of hc, xll_8, xlg_8_0, xlg_8_1, xlg_8_2, xlg_8_3, xlg_8_4, xlg_8_5, xlg_8_6, xc_of y0, not_false_eq_true, Nat.reduceLT, Nat.reduceAdd, true_and, and_true, if_true, if_false, ite_true, ite_false, xnb_0, xnb_1, xnb_b, xk_v, xk_n, z, eq_false h, f_Bay_isAtHome hB hY i (show i < 6 by omega)]
theorem st_isHome (hI : IV n X) (p : Int32) : ∃ (k v : Int32) (X1 X2 : xH), (∀ Q, xcall E xprog (d + 4) 240 [.ref 0, .int p, .ref 78] X Q = Q (.inl (some (.int k)), X1)) ∧
    (∀ Q, xcall E xprog (d + 4) 199 [.ref 63, .int p] X1 Q = Q (.inl (some (.int v)), X2)) ∧ IVk n k X2 ∧ (k = 0 → ∃ f : Nat → Int64, X2.1 78 = xarJ 1 f ∧ ((v = 1 ∧ f 0 = 1) ∨ (v = 0 ∧ f 0 = 0))) ∧ (X2.2 = X.2 ∨ X2.2 = (X.2.1 + 1, X.2.2 + 6)) := by
  obtain ⟨Kb, Ks, K, l, ep, th, T, tp, b, nm, s, a, t, g, q, co, ro, nk, nc, nn, cnt, rs, re, hD⟩ := hI
  obtain ⟨hc, _, _, hB, _, hY, _, _⟩ := id hD.1
  have hs : s 4 = nI nn := hD.2.2.2.2.1.2.2.1.2.2.2.2.1
  have hC : kRc b s g q nn rs re := hD.2.2.2.2.1.2.1
  have h6 : nn ≤ 6 := hC.2.1
  have x0 : xcl X 0 = 8 := by
    unfold tgC at hc
    exact xc_of hc
  by_cases h : p < 0 ∨ ¬ p < nI nn
  · obtain ⟨kp, wc, sk, m1, m2⟩ := ivD_th (ivD_new (c := .inr (14, [])) (k := 6) hD)
    refine ⟨1, 0, xnew X (.inr (14, [])) 6, _, fun Q => ?_, fun Q => ?_, ⟨Kb, Ks, K, l, ep, T, tp, b, nm, s, a, t, g, q, co, ro, nk, nc, nn, cnt, rs, re, m2 1 kp wc sk⟩, fun h => absurd h (by decide), Or.inr ?_⟩
    · rw [e_L_isHome]
      simp only [s_L_isHome_0, s_L_isHome_1, s_L_isHome_2, s_L_isHome_3, s_L_isHome_4, x0, not_false_eq_true, Nat.reduceLT, Nat.reduceAdd, true_and, and_true, if_true, if_false, ite_true, ite_false, xnb_0, xnb_1, xnb_b, xk_v, xk_n, c_T_isHome_o hc hB hs h, k_isHome_14, s_L_isHome_20, s_L_isHome_21]
    · refine (congrArg (fun Z => xcall E xprog (d + 4) 199 [.ref 63, .int p] Z Q) m1).trans ?_
      exact c_M_isHome_o (ivD_new (c := .inr (14, [])) (k := 6) hD).2.1.2.1 (ivD_new (c := .inr (14, [])) (k := 6) hD).2.1.2.2.1 hC h
    · rfl
  · have h1 : ¬ p < 0 := fun r => h (Or.inl r)
    have h2 : p < nI nn := Decidable.byContradiction fun r => h (Or.inr r)
    obtain ⟨i, hi, rfl⟩ := rng_ex h6 h1 h2
    obtain ⟨f, hf⟩ := hD.2.1.2.2.2.2.2
    by_cases hp : a 3 i = b 7 i ∧ a 4 i = b 8 i
    · have hD2 := ivD_out (f := vp_updL f 0 1) hD
      obtain ⟨kp, wc, sk, m1, m2⟩ := ivD_th hD2
      refine ⟨0, 1, xset X 78 (xarJ 1 (vp_updL f 0 1)), _, fun Q => ?_, fun Q => ?_, ⟨Kb, Ks, K, l, ep, T, tp, b, nm, s, a, t, g, q, co, ro, nk, nc, nn, cnt, rs, re, m2 0 kp wc sk⟩, fun _ => ⟨_, (mH_o 78 (by omega)).trans (xset_s 78 rfl), Or.inl ⟨rfl, updL_s⟩⟩, Or.inl rfl⟩
      · rw [e_L_isHome]
        simp only [s_L_isHome_0, s_L_isHome_1, s_L_isHome_2, s_L_isHome_3, s_L_isHome_4, s_L_isHome_7, s_L_isHome_10, s_L_isHome_11, s_L_isHome_14, s_L_isHome_15, s_L_isHome_16, s_L_isHome_22, s_L_isHome_23, x0, not_false_eq_true, Nat.reduceLT, Nat.reduceAdd, true_and, and_true, if_true, if_false, ite_true, ite_false, xnb_0, xnb_1, xnb_b, xk_v, xk_n, c_T_isHome_i hc hB hY hs h6 hi, xb_t hp, show ((1 : Int32) = 0) = False from eq_false (by decide), xJl_of hf, xJf_of hf, show vp_in (0 : Int32) 1 = True from nvp (i := 0) (by omega) (by omega), show (0 : Int32).toNatClampNeg = 0 from rfl]
      · refine (congrArg (fun Z => xcall E xprog (d + 4) 199 [.ref 63, .int (nI i)] Z Q) m1).trans ?_
        rw [c_M_isHome_i hD2.2.1.2.1 hD2.2.1.2.2.1 hC hi, xb_t hp]
    · have hD2 := ivD_out (f := vp_updL f 0 0) hD
      obtain ⟨kp, wc, sk, m1, m2⟩ := ivD_th hD2
      refine ⟨0, 0, xset X 78 (xarJ 1 (vp_updL f 0 0)), _, fun Q => ?_, fun Q => ?_, ⟨Kb, Ks, K, l, ep, T, tp, b, nm, s, a, t, g, q, co, ro, nk, nc, nn, cnt, rs, re, m2 0 kp wc sk⟩, fun _ => ⟨_, (mH_o 78 (by omega)).trans (xset_s 78 rfl), Or.inr ⟨rfl, updL_s⟩⟩, Or.inl rfl⟩
      · rw [e_L_isHome]
        simp only [s_L_isHome_0, s_L_isHome_1, s_L_isHome_2, s_L_isHome_3, s_L_isHome_4, s_L_isHome_7, s_L_isHome_10, s_L_isHome_11, s_L_isHome_14, s_L_isHome_15, s_L_isHome_16, s_L_isHome_22, s_L_isHome_23, x0, not_false_eq_true, Nat.reduceLT, Nat.reduceAdd, true_and, and_true, if_true, if_false, ite_true, ite_false, xnb_0, xnb_1, xnb_b, xk_v, xk_n, c_T_isHome_i hc hB hY hs h6 hi, xb_f hp, xJl_of hf, xJf_of hf, show vp_in (0 : Int32) 1 = True from nvp (i := 0) (by omega) (by omega), show (0 : Int32).toNatClampNeg = 0 from rfl]
      · refine (congrArg (fun Z => xcall E xprog (d + 4) 199 [.ref 63, .int (nI i)] Z Q) m1).trans ?_
        rw [c_M_isHome_i hD2.2.1.2.1 hD2.2.1.2.2.1 hC hi, xb_f hp]
end HOME
