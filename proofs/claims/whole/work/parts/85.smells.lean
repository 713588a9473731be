/-! ===== what a clipper smells ===== -/
section SMELLS
variable {E : xE} {d n : Nat} {Q : xR → Prop} {X H : xH} {Kb Ks K l : Nat} {ep th : Int32} {T : Nat → Nat} {tp : Nat → Int32} {b : Nat → Nat → Int32} {nm : Nat → Int64} {s : Nat → Int32} {a : Nat → Nat → Int32} {t : Nat → Int32} {g : Nat → Nat → Int32} {q : Nat → Int32} {co ro nk nc nn cnt : Nat} {rs re : Nat → Nat} {nw kp wc sk : Nat → Int32} {sz ea : Int32}
theorem dir_in (c : Int32) : (¬ c < 0 ∧ ¬ 3 < c) ↔ ¬ (c < 0 ∨ ¬ c < 4) := by
  have e1 : (3 : Int32).toInt = 3 := by decide
  have e2 : (4 : Int32).toInt = 4 := by decide
  have e3 : (0 : Int32).toInt = 0 := by decide
  simp only [Int32.lt_iff_toInt_lt, e1, e2, e3]
  omega
theorem cli_in {c : Int32} (h6 : nn ≤ 6) (hq : q 4 = nI nn) : (¬ c < 0 ∧ ¬ q 4 - 1 < c) ↔ ¬ (c < 0 ∨ ¬ c < nI nn) := by
  rw [hq, rng_in h6]
  exact ⟨fun h r => r.elim h.1 (fun z => z h.2), fun h => ⟨fun r => h (Or.inl r), Decidable.byContradiction fun r => h (Or.inr r)⟩⟩
theorem c_M_smells_i (hM : kM H K g q) (hK : mK K) (hR : kRk b s g q nk) (hC : kRc b s g q nn rs re) (ha : bOK a nk) {i : Nat} (hi : i < nn) {r : Int32} (hr : ¬ (r < 0 ∨ ¬ r < 4)) : xcall E xprog (d + 4) 205 [.ref 63, .int (nI i), .int r] (mH H K th sz ea tp (nwO nn a t) kp wc sk) Q = Q (.inl (some (.int (smeC a b t s nk i r))), mH H K 0 sz ea tp (nwO nn a t) kp wc sk) := by
  have h6 := hC.2.1
  have hx : (¬ nI i < 0 ∧ ¬ q 4 - 1 < nI i) := by
    refine (cli_in h6 hC.1).mpr ?_
    rw [nI_n0 i (by omega), n_lt (by omega) (by omega)]
    exact fun r => r.elim id (fun z => z hi)
  rw [e_M_smells]
  simp only [s_M_smells_0, s_M_smells_1, s_M_smells_2, s_M_smells_5, s_M_smells_6, s_M_smells_7, s_M_smells_10, s_M_smells_13, s_M_smells_14, s_M_smells_15, s_M_smells_16, s_M_smells_19, s_M_smells_22, s_M_smells_23, s_M_smells_24, s_M_smells_25, s_M_smells_28, s_M_smells_31, s_M_smells_32, s_M_smells_33, s_M_smells_36, mF, mC, ml_64, mf_64, mw_63, mw_64, ml_74, mf_74, mw_74, ml_75, mf_75, mw_75, ml_76, mf_76, mw_76, ml_77, mf_77, mw_77, xll_11, xlg_11_0, xlg_11_1, xlg_11_2, xlg_11_3, xlg_11_4, xlg_11_5, xlg_11_6, xlg_11_7, xlg_11_8, xls_11_0, xls_11_1, xls_11_2, xls_11_3, xls_11_4, xls_11_5, xls_11_6, xls_11_7, xls_11_8, nF hM hK, nC hM hK, nl_0 hM hK, nl_1 hM hK, nl_2 hM hK, nl_3 hM hK, nl_4 hM hK, nl_5 hM hK, nl_6 hM hK, nl_7 hM hK, nf_0 hM hK, nf_1 hM hK, nf_2 hM hK, nf_3 hM hK, nf_4 hM hK, nf_5 hM hK, nf_6 hM hK, nf_7 hM hK, xll_9, xlg_9_0, xlg_9_1, xlg_9_2, xlg_9_3, xlg_9_4, xlg_9_5, xlg_9_6, xlg_9_7, xlg_9_8, xlg_9_9, xlg_9_10, xlg_9_11, xlg_9_12, xlg_9_13, not_false_eq_true, Nat.reduceLT, Nat.reduceAdd, true_and, and_true, if_true, if_false, ite_true, ite_false, xnb_0, xnb_1, xnb_b, xk_v, xk_n, f_M_isClipper hM hK, xb_t hx, xb_t ((dir_in r).mpr hr), f_M_isIn, show ((1 : Int32) = 0) = False from eq_false (by decide), f_M_smell hM hK nk nn rs re hR hC ha i hi]
theorem c_M_smells_o (hM : kM H K g q) (hK : mK K) (hC : kRc b s g q nn rs re) {c r : Int32} (hc : (c < 0 ∨ ¬ c < nI nn) ∨ (r < 0 ∨ ¬ r < 4)) : xcall E xprog (d + 4) 205 [.ref 63, .int c, .int r] (mH H K th sz ea tp nw kp wc sk) Q = Q (.inl (some (.int 0)), mH H K 1 sz ea tp nw kp wc sk) := by
  rw [e_M_smells]
  by_cases hx : ¬ c < 0 ∧ ¬ q 4 - 1 < c
  · have hr : ¬ (¬ r < 0 ∧ ¬ 3 < r) := by
      rw [dir_in]
      exact fun z => hc.elim ((cli_in hC.2.1 hC.1).mp hx) z
    simp only [s_M_smells_0, s_M_smells_1, s_M_smells_2, s_M_smells_5, s_M_smells_6, s_M_smells_7, s_M_smells_10, s_M_smells_13, s_M_smells_14, s_M_smells_15, s_M_smells_16, s_M_smells_19, s_M_smells_22, s_M_smells_23, s_M_smells_24, s_M_smells_25, s_M_smells_28, s_M_smells_31, s_M_smells_32, s_M_smells_33, s_M_smells_36, mF, mC, ml_64, mf_64, mw_63, mw_64, ml_74, mf_74, mw_74, ml_75, mf_75, mw_75, ml_76, mf_76, mw_76, ml_77, mf_77, mw_77, xll_11, xlg_11_0, xlg_11_1, xlg_11_2, xlg_11_3, xlg_11_4, xlg_11_5, xlg_11_6, xlg_11_7, xlg_11_8, xls_11_0, xls_11_1, xls_11_2, xls_11_3, xls_11_4, xls_11_5, xls_11_6, xls_11_7, xls_11_8, nF hM hK, nC hM hK, nl_0 hM hK, nl_1 hM hK, nl_2 hM hK, nl_3 hM hK, nl_4 hM hK, nl_5 hM hK, nl_6 hM hK, nl_7 hM hK, nf_0 hM hK, nf_1 hM hK, nf_2 hM hK, nf_3 hM hK, nf_4 hM hK, nf_5 hM hK, nf_6 hM hK, nf_7 hM hK, xll_9, xlg_9_0, xlg_9_1, xlg_9_2, xlg_9_3, xlg_9_4, xlg_9_5, xlg_9_6, xlg_9_7, xlg_9_8, xlg_9_9, xlg_9_10, xlg_9_11, xlg_9_12, xlg_9_13, not_false_eq_true, Nat.reduceLT, Nat.reduceAdd, true_and, and_true, if_true, if_false, ite_true, ite_false, xnb_0, xnb_1, xnb_b, xk_v, xk_n, f_M_isClipper hM hK, xb_t hx, xb_f hr, f_M_isIn, show ((1 : Int32) = 0) = False from eq_false (by decide), e_M_fail, s_M_fail_0, s_M_fail_1, s_M_fail_2, s_M_fail_5, s_M_fail_6]
  · simp only [s_M_smells_0, s_M_smells_1, s_M_smells_2, s_M_smells_5, s_M_smells_6, s_M_smells_7, s_M_smells_10, s_M_smells_13, s_M_smells_14, s_M_smells_15, s_M_smells_16, s_M_smells_19, s_M_smells_22, s_M_smells_23, s_M_smells_24, s_M_smells_25, s_M_smells_28, s_M_smells_31, s_M_smells_32, s_M_smells_33, s_M_smells_36, mF, mC, ml_64, mf_64, mw_63, mw_64, ml_74, mf_74, mw_74, ml_75, mf_75, mw_75, ml_76, mf_76, mw_76, ml_77, mf_77, mw_77, xll_11, xlg_11_0, xlg_11_1, xlg_11_2, xlg_11_3, xlg_11_4, xlg_11_5, xlg_11_6, xlg_11_7, xlg_11_8, xls_11_0, xls_11_1, xls_11_2, xls_11_3, xls_11_4, xls_11_5, xls_11_6, xls_11_7, xls_11_8, nF hM hK, nC hM hK, nl_0 hM hK, nl_1 hM hK, nl_2 hM hK, nl_3 hM hK, nl_4 hM hK, nl_5 hM hK, nl_6 hM hK, nl_7 hM hK, nf_0 hM hK, nf_1 hM hK, nf_2 hM hK, nf_3 hM hK, nf_4 hM hK, nf_5 hM hK, nf_6 hM hK, nf_7 hM hK, xll_9, xlg_9_0, xlg_9_1, xlg_9_2, xlg_9_3, xlg_9_4, xlg_9_5, xlg_9_6, xlg_9_7, xlg_9_8, xlg_9_9, xlg_9_10, xlg_9_11, xlg_9_12, xlg_9_13, not_false_eq_true, Nat.reduceLT, Nat.reduceAdd, true_and, and_true, if_true, if_false, ite_true, ite_false, xnb_0, xnb_1, xnb_b, xk_v, xk_n, f_M_isClipper hM hK, xb_f hx, e_M_fail, s_M_fail_0, s_M_fail_1, s_M_fail_2, s_M_fail_5, s_M_fail_6]
theorem c_T_smells_o (hc : X.1 0 = tgC Kb Ks ep) (hB : kB X Kb b nm s) (hs : s 4 = nI nn) {c r : Int32} (h : (c < 0 ∨ ¬ c < nI nn) ∨ (r < 0 ∨ ¬ r < 4)) : xcall E xprog (d + 4) 93 [.ref 0, .int c, .int r] X Q = Q (.inr 14, xnew X (.inr (14, [])) 6) := by
  have z := fun (Q : xR → Prop) => f_T_needClipper (E := E) (d := d + 2) (Q := Q) hc hB c
  have z2 := fun (Q : xR → Prop) => f_T_needDirection (E := E) (d := d + 2) (Q := Q) (X := X) r
  rw [hs] at z
  unfold tgC at hc
  rw [e_T_smells]
  by_cases p : c < 0 ∨ ¬ c < nI nn
  · simp only [s_T_smells_0, s_T_smells_1, s_T_smells_2, s_T_smells_5, s_T_smells_6, s_T_smells_9, s_T_smells_10, s_T_smells_13, s_T_smells_14, s_T_smells_15, s_T_smells_18, xc_of hc, not_false_eq_true, Nat.reduceLT, Nat.reduceAdd, true_and, and_true, if_true, if_false, ite_true, ite_false, xnb_0, xnb_1, xnb_b, xk_v, xk_n, z, eq_true p, xk_x (y := m_T_smells) rfl]
  · have p2 : r < 0 ∨ ¬ r < 4 := h.resolve_left p
    simp only [s_T_smells_0, s_T_smells_1, s_T_smells_2, s_T_smells_5, s_T_smells_6, s_T_smells_9, s_T_smells_10, s_T_smells_13, s_T_smells_14, s_T_smells_15, s_T_smells_18, xc_of hc, not_false_eq_true, Nat.reduceLT, Nat.reduceAdd, true_and, and_true, if_true, if_false, ite_true, ite_false, xnb_0, xnb_1, xnb_b, xk_v, xk_n, z, eq_false p, z2, eq_true p2, xk_x (y := m_T_smells) rfl]
theorem c_T_smells_i (hc : X.1 0 = tgC Kb Ks ep) (hB : kB X Kb b nm s) (hY : kY X 43 Kb a t) (hs : s 4 = nI nn) (h6 : nn ≤ 6) (hn : s 2 = nI nk) (hk : nk ≤ 6) {i : Nat} (hi : i < nn) {r : Int32} (hr : ¬ (r < 0 ∨ ¬ r < 4)) : xcall E xprog (d + 4) 93 [.ref 0, .int (nI i), .int r] X Q = Q (.inl (some (.int (smeC a b t s nk i r))), X) := by
  have z := fun (Q : xR → Prop) => f_T_needClipper (E := E) (d := d + 2) (Q := Q) hc hB (nI i)
  have z2 := fun (Q : xR → Prop) => f_T_needDirection (E := E) (d := d + 2) (Q := Q) (X := X) r
  rw [hs] at z
  have h : ¬ (nI i < 0 ∨ ¬ nI i < nI nn) := by
    rw [nI_n0 i (by omega), n_lt (by omega) (by omega)]
    exact fun r => r.elim id (fun z => z hi)
  have y0 := hY.1
  unfold tgC at hc
  rw [e_T_smells]
  simp only [s_T_smells_0, s_T_smells_1, s_T_smells_2, s_T_smells_5, s_T_smells_6, s_T_smells_9, s_T_smells_10, s_T_smells_13, s_T_smells_14, s_T_smells_15, s_T_smells_18, xc_of hc, xf_of hc, xll_8, xlg_8_0, xlg_8_1, xlg_8_2, xlg_8_3, xlg_8_4, xlg_8_5, xlg_8_6, xc_of y0, not_false_eq_true, Nat.reduceLT, Nat.reduceAdd, true_and, and_true, if_true, if_false, ite_true, ite_false, xnb_0, xnb_1, xnb_b, xk_v, xk_n, z, z2, eq_false h, eq_false hr, f_Bay_smell hB hY nk hn hk i (show i < 6 by omega)]
theorem st_smells (hI : IV n X) (p r : Int32) : ∃ (k v : Int32) (X1 X2 : xH), (∀ Q, xcall E xprog (d + 5) 246 [.ref 0, .int p, .int r, .ref 78] X Q = Q (.inl (some (.int k)), X1)) ∧
    (∀ Q, xcall E xprog (d + 5) 205 [.ref 63, .int p, .int r] X1 Q = Q (.inl (some (.int v)), X2)) ∧ IVk n k X2 ∧ (k = 0 → ∃ f : Nat → Int64, X2.1 78 = xarJ 1 f ∧ f 0 = v.toInt64) ∧ (X2.2 = X.2 ∨ X2.2 = (X.2.1 + 1, X.2.2 + 6)) := by
  obtain ⟨Kb, Ks, K, l, ep, th, T, tp, b, nm, s, a, t, g, q, co, ro, nk, nc, nn, cnt, rs, re, hD⟩ := hI
  obtain ⟨hc, _, _, hB, _, hY, _, _⟩ := id hD.1
  have hn : s 2 = nI nk := hD.2.2.2.2.1.2.2.1.1
  have hs : s 4 = nI nn := hD.2.2.2.2.1.2.2.1.2.2.2.2.1
  have hR : kRk b s g q nk := hD.2.2.2.2.1.1
  have hC : kRc b s g q nn rs re := hD.2.2.2.2.1.2.1
  have ha : bOK a nk := kSt_b hD.2.2.2.2.2
  have hk : nk ≤ 6 := hR.2.2.2.1
  have h6 : nn ≤ 6 := hC.2.1
  have x0 : xcl X 0 = 8 := by
    unfold tgC at hc
    exact xc_of hc
  by_cases h : (p < 0 ∨ ¬ p < nI nn) ∨ (r < 0 ∨ ¬ r < 4)
  · obtain ⟨kp, wc, sk, m1, m2⟩ := ivD_th (ivD_new (c := .inr (14, [])) (k := 6) hD)
    refine ⟨1, 0, xnew X (.inr (14, [])) 6, _, fun Q => ?_, fun Q => ?_, ⟨Kb, Ks, K, l, ep, T, tp, b, nm, s, a, t, g, q, co, ro, nk, nc, nn, cnt, rs, re, m2 1 kp wc sk⟩, fun h => absurd h (by decide), Or.inr ?_⟩
    · rw [e_L_smells]
      simp only [s_L_smells_0, s_L_smells_1, s_L_smells_2, s_L_smells_3, s_L_smells_4, s_L_smells_5, s_L_smells_8, s_L_smells_9, s_L_smells_10, s_L_smells_15, s_L_smells_16, s_L_smells_17, s_L_smells_18, x0, not_false_eq_true, Nat.reduceLT, Nat.reduceAdd, true_and, and_true, if_true, if_false, ite_true, ite_false, xnb_0, xnb_1, xnb_b, xk_v, xk_n, c_T_smells_o hc hB hs h, k_smells_14]
    · refine (congrArg (fun Z => xcall E xprog (d + 5) 205 [.ref 63, .int p, .int r] Z Q) m1).trans ?_
      exact c_M_smells_o (d := d + 1) (ivD_new (c := .inr (14, [])) (k := 6) hD).2.1.2.1 (ivD_new (c := .inr (14, [])) (k := 6) hD).2.1.2.2.1 hC h
    · rfl
  · have h3 : ¬ (p < 0 ∨ ¬ p < nI nn) := fun z => h (Or.inl z)
    have h4 : ¬ (r < 0 ∨ ¬ r < 4) := fun z => h (Or.inr z)
    obtain ⟨i, hi, rfl⟩ := rng_ex h6 (fun z => h3 (Or.inl z)) (Decidable.byContradiction fun z => h3 (Or.inr z))
    obtain ⟨f, hf⟩ := hD.2.1.2.2.2.2.2
    have hD2 := ivD_out (f := vp_updL f 0 (smeC a b t s nk i r).toInt64) hD
    obtain ⟨kp, wc, sk, m1, m2⟩ := ivD_th hD2
    refine ⟨0, smeC a b t s nk i r, xset X 78 (xarJ 1 (vp_updL f 0 (smeC a b t s nk i r).toInt64)), _, fun Q => ?_, fun Q => ?_, ⟨Kb, Ks, K, l, ep, T, tp, b, nm, s, a, t, g, q, co, ro, nk, nc, nn, cnt, rs, re, m2 0 kp wc sk⟩, fun _ => ⟨_, (mH_o 78 (by omega)).trans (xset_s 78 rfl), updL_s⟩, Or.inl rfl⟩
    · rw [e_L_smells]
      simp only [s_L_smells_0, s_L_smells_1, s_L_smells_2, s_L_smells_3, s_L_smells_4, s_L_smells_5, s_L_smells_8, s_L_smells_9, s_L_smells_10, s_L_smells_15, s_L_smells_16, s_L_smells_17, s_L_smells_18, x0, not_false_eq_true, Nat.reduceLT, Nat.reduceAdd, true_and, and_true, if_true, if_false, ite_true, ite_false, xnb_0, xnb_1, xnb_b, xk_v, xk_n, c_T_smells_i hc hB hY hs h6 hn hk hi h4, xJl_of hf, xJf_of hf, show vp_in (0 : Int32) 1 = True from nvp (i := 0) (by omega) (by omega), show (0 : Int32).toNatClampNeg = 0 from rfl]
    · refine (congrArg (fun Z => xcall E xprog (d + 5) 205 [.ref 63, .int (nI i), .int r] Z Q) m1).trans ?_
      exact c_M_smells_i (d := d + 1) hD2.2.1.2.1 hD2.2.1.2.2.1 hR hC ha hi h4
end SMELLS
