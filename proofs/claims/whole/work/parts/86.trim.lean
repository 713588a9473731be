/-! ===== the tape is trimmed ===== -/
section TRIM
variable {E : xE} {d n : Nat} {Q : xR → Prop} {X H : xH} {Kb Ks K l j : Nat} {ep th : Int32} {T : Nat → Nat} {tp : Nat → Int32} {b : Nat → Nat → Int32} {nm : Nat → Int64} {s : Nat → Int32} {a : Nat → Nat → Int32} {t : Nat → Int32} {g : Nat → Nat → Int32} {q : Nat → Int32} {co ro nk nc nn cnt : Nat} {rs re : Nat → Nat} {nw kp wc sk : Nat → Int32} {sz ea : Int32}
def tpC (j : Nat) : xC := .inr (6, [.ref 2, .int (nI j)])
theorem ivC_len (h : ivC X Kb Ks l ep tp b nm s a t) : ivC (xset X 1 (tpC j)) Kb Ks j ep tp b nm s a t := by
  obtain ⟨h1, h2, ⟨er, ep', cc, cr, ct, nx, kd, st, vl, wd, h3, h3'⟩, h4, ⟨b', nm', s', h5⟩, h6, ⟨ms, sk, hh, h7⟩, ⟨Kt, a', t', h8⟩⟩ := h
  have o : ∀ m, ¬ m = 1 → (xset X 1 (tpC j)).1 m = X.1 m := fun m hm => xset_o m hm
  refine ⟨(o 0 (by omega)).trans h1, h2, ⟨er, ep', cc, cr, ct, nx, kd, st, vl, wd, ?_, h3'⟩, kB_eq h4 (fun m _ p => o m (by omega)), ⟨b', nm', s', kB_eq h5 (fun m _ p => o m (by omega))⟩, kY_eq h6 (fun m _ p => o m (by omega)), ⟨ms, sk, hh, kT_eq h7 (fun m _ p => o m (by omega))⟩, ⟨Kt, a', t', kY_eq h8 (fun m _ p => o m (by omega))⟩⟩
  obtain ⟨_, t1, t2, t3, t4, t5, t6, t7, t8⟩ := h3
  exact ⟨xset_s 1 rfl, (o 2 (by omega)).trans t1, (o 3 (by omega)).trans t2, (o 4 (by omega)).trans t3, (o 5 (by omega)).trans t4, (o 6 (by omega)).trans t5, (o 7 (by omega)).trans t6, (o 8 (by omega)).trans t7, (o 9 (by omega)).trans t8⟩
theorem c_M_trim_o {p : Int32} (h : p < 0 ∨ sz < p) : xcall E xprog (d + 4) 155 [.ref 63, .int p] (mH H K th sz ea tp nw kp wc sk) Q = Q (.inl (some (.int 0)), mH H K 1 sz ea tp nw kp wc sk) := by
  have hx : ¬ (¬ p < 0 ∧ ¬ sz < p) := fun z => h.elim z.1 z.2
  rw [e_M_trim]
  simp only [s_M_trim_0, s_M_trim_1, s_M_trim_2, s_M_trim_5, s_M_trim_6, s_M_trim_7, s_M_trim_8, s_M_trim_11, s_M_trim_14, s_M_trim_17, s_M_trim_18, s_M_trim_19, s_M_trim_22, s_M_trim_23, s_M_trim_24, s_M_trim_25, s_M_trim_28, s_M_trim_29, mF, mC, ml_64, mf_64, mw_63, mw_64, ml_74, mf_74, mw_74, ml_75, mf_75, mw_75, ml_76, mf_76, mw_76, ml_77, mf_77, mw_77, xll_11, xlg_11_0, xlg_11_1, xlg_11_2, xlg_11_3, xlg_11_4, xlg_11_5, xlg_11_6, xlg_11_7, xlg_11_8, xls_11_0, xls_11_1, xls_11_2, xls_11_3, xls_11_4, xls_11_5, xls_11_6, xls_11_7, xls_11_8, not_false_eq_true, Nat.reduceLT, Nat.reduceAdd, true_and, and_true, if_true, if_false, ite_true, ite_false, xnb_0, xnb_1, xnb_b, xk_v, xk_n, f_M_isIn, xb_f hx, e_M_fail, s_M_fail_0, s_M_fail_1, s_M_fail_2, s_M_fail_5, s_M_fail_6]
theorem c_M_trim_i {p : Int32} (h : ¬ (p < 0 ∨ sz < p)) : xcall E xprog (d + 4) 155 [.ref 63, .int p] (mH H K th sz ea tp nw kp wc sk) Q = Q (.inl (some (.int p)), mH H K 0 p ea tp nw kp wc sk) := by
  have hx : (¬ p < 0 ∧ ¬ sz < p) := ⟨fun z => h (Or.inl z), fun z => h (Or.inr z)⟩
  rw [e_M_trim]
  simp only [s_M_trim_0, s_M_trim_1, s_M_trim_2, s_M_trim_5, s_M_trim_6, s_M_trim_7, s_M_trim_8, s_M_trim_11, s_M_trim_14, s_M_trim_17, s_M_trim_18, s_M_trim_19, s_M_trim_22, s_M_trim_23, s_M_trim_24, s_M_trim_25, s_M_trim_28, s_M_trim_29, mF, mC, ml_64, mf_64, mw_63, mw_64, ml_74, mf_74, mw_74, ml_75, mf_75, mw_75, ml_76, mf_76, mw_76, ml_77, mf_77, mw_77, xll_11, xlg_11_0, xlg_11_1, xlg_11_2, xlg_11_3, xlg_11_4, xlg_11_5, xlg_11_6, xlg_11_7, xlg_11_8, xls_11_0, xls_11_1, xls_11_2, xls_11_3, xls_11_4, xls_11_5, xls_11_6, xls_11_7, xls_11_8, not_false_eq_true, Nat.reduceLT, Nat.reduceAdd, true_and, and_true, if_true, if_false, ite_true, ite_false, xnb_0, xnb_1, xnb_b, xk_v, xk_n, f_M_isIn, xb_t hx, show ((1 : Int32) = 0) = False from eq_false (by decide)]
theorem c_T_trim_o (hc : X.1 0 = tgC Kb Ks ep) (ht : X.1 1 = .inr (6, [.ref 2, .int (nI l)])) {p : Int32} (h : p < 0 ∨ nI l < p) : xcall E xprog (d + 3) 70 [.ref 0, .int p] X Q = Q (.inr 13, xnew X (.inr (13, [])) 6) := by
  unfold tgC at hc
  rw [e_T_trim]
  by_cases h1 : p < 0
  · simp only [s_T_trim_0, s_T_trim_1, eq_true h1, if_true, s_T_trim_15, t_T_trim_24]
  · have h2 := h.resolve_left h1
    simp only [s_T_trim_0, s_T_trim_1, s_T_trim_4, s_T_trim_5, s_T_trim_6, s_T_trim_9, s_T_trim_12, s_T_trim_15, xf_of hc, xf_of ht, xll_8, xlg_8_0, xlg_8_1, xlg_8_2, xlg_8_3, xlg_8_4, xlg_8_5, xlg_8_6, xll_6, xlg_6_0, xlg_6_1, not_false_eq_true, Nat.reduceLT, Nat.reduceAdd, true_and, and_true, if_true, if_false, ite_true, ite_false, xnb_0, xnb_1, xnb_b, xk_v, xk_n, eq_false h1, eq_true h2, t_T_trim_24]
theorem c_T_trim_i (hc : X.1 0 = tgC Kb Ks ep) (ht : X.1 1 = .inr (6, [.ref 2, .int (nI l)])) (h : ¬ (nI j < 0 ∨ nI l < nI j)) : xcall E xprog (d + 3) 70 [.ref 0, .int (nI j)] X Q = Q (.inl (some (.int (nI j))), xset X 1 (tpC j)) := by
  have h1 : ¬ nI j < 0 := fun z => h (Or.inl z)
  have h2 : ¬ nI l < nI j := fun z => h (Or.inr z)
  unfold tgC at hc
  unfold tpC
  rw [e_T_trim]
  simp only [s_T_trim_0, s_T_trim_1, s_T_trim_4, s_T_trim_5, s_T_trim_6, s_T_trim_9, s_T_trim_12, s_T_trim_15, s_T_trim_25, s_T_trim_26, s_T_trim_29, s_T_trim_30, s_T_trim_33, s_T_trim_34, xf_of hc, xf_of ht, xll_8, xlg_8_0, xlg_8_1, xlg_8_2, xlg_8_3, xlg_8_4, xlg_8_5, xlg_8_6, xll_6, xlg_6_0, xlg_6_1, xls_6_0, xls_6_1, not_false_eq_true, Nat.reduceLT, Nat.reduceAdd, true_and, and_true, if_true, if_false, ite_true, ite_false, xnb_0, xnb_1, xnb_b, xk_v, xk_n, eq_false h1, eq_false h2]
theorem st_trim (hI : IV n X) (p : Int32) : ∃ (k v : Int32) (X1 X2 : xH), (∀ Q, xcall E xprog (d + 4) 232 [.ref 0, .int p, .ref 78] X Q = Q (.inl (some (.int k)), X1)) ∧
    (∀ Q, xcall E xprog (d + 4) 155 [.ref 63, .int p] X1 Q = Q (.inl (some (.int v)), X2)) ∧ IVk n k X2 ∧ (k = 0 → ∃ f : Nat → Int64, X2.1 78 = xarJ 1 f ∧ f 0 = v.toInt64) ∧ (X2.2 = X.2 ∨ X2.2 = (X.2.1 + 1, X.2.2 + 6)) := by
  obtain ⟨Kb, Ks, K, l, ep, th, T, tp, b, nm, s, a, t, g, q, co, ro, nk, nc, nn, cnt, rs, re, hD⟩ := hI
  obtain ⟨hc, _, ⟨_, _, _, _, _, _, _, _, _, _, ⟨ht, _⟩, _⟩, _⟩ := id hD.1
  have x0 : xcl X 0 = 8 := by
    unfold tgC at hc
    exact xc_of hc
  by_cases h : p < 0 ∨ nI l < p
  · obtain ⟨kp, wc, sk, m1, m2⟩ := ivD_th (ivD_new (c := .inr (13, [])) (k := 6) hD)
    refine ⟨1, 0, xnew X (.inr (13, [])) 6, _, fun Q => ?_, fun Q => ?_, ⟨Kb, Ks, K, l, ep, T, tp, b, nm, s, a, t, g, q, co, ro, nk, nc, nn, cnt, rs, re, m2 1 kp wc sk⟩, fun h => absurd h (by decide), Or.inr ?_⟩
    · rw [e_L_trim]
      simp only [s_L_trim_0, s_L_trim_1, s_L_trim_2, s_L_trim_3, s_L_trim_4, s_L_trim_7, s_L_trim_8, s_L_trim_9, s_L_trim_13, s_L_trim_14, s_L_trim_15, s_L_trim_16, x0, not_false_eq_true, Nat.reduceLT, Nat.reduceAdd, true_and, and_true, if_true, if_false, ite_true, ite_false, xnb_0, xnb_1, xnb_b, xk_v, xk_n, c_T_trim_o hc ht h, k_trim_13]
    · refine (congrArg (fun Z => xcall E xprog (d + 4) 155 [.ref 63, .int p] Z Q) m1).trans ?_
      exact c_M_trim_o h
    · rfl
  · obtain ⟨j, hj, rfl⟩ : ∃ j, j < 2147483648 ∧ p = nI j := by
      have e3 : (0 : Int32).toInt = 0 := by decide
      have h1 : ¬ p < 0 := fun z => h (Or.inl z)
      rw [Int32.lt_iff_toInt_lt] at h1
      have h2 := p.toInt_lt
      exact ⟨p.toInt.toNat, by omega, nI_tn (by omega)⟩
    have hl : l ≤ 1600 := hD.2.2.2.1
    have hjl : j ≤ l := by
      have h2 : ¬ nI l < nI j := fun z => h (Or.inr z)
      rw [n_lt (by omega) hj] at h2
      omega
    obtain ⟨⟨kp, wc, sk, m1⟩, m3, m4, m5, m6, f, hf⟩ := hD.2.1
    have m1' : xset (xset X 1 (tpC j)) 78 (xarJ 1 (vp_updL f 0 (nI j).toInt64)) = mH (xset (xset X 1 (tpC j)) 78 (xarJ 1 (vp_updL f 0 (nI j).toInt64))) K th (nI l) ep tp (nwO nn a t) kp wc sk := mH_of m1 (fun n _ _ => by rw [xset_o n (by omega), xset_o n (by omega)])
    have hf1 : (xset X 1 (tpC j)).1 78 = xarJ 1 f := (xset_o 78 (by omega)).trans hf
    refine ⟨0, nI j, xset (xset X 1 (tpC j)) 78 (xarJ 1 (vp_updL f 0 (nI j).toInt64)), mH (xset (xset X 1 (tpC j)) 78 (xarJ 1 (vp_updL f 0 (nI j).toInt64))) K 0 (nI j) ep tp (nwO nn a t) kp wc sk, fun Q => ?_, fun Q => ?_, ⟨Kb, Ks, K, j, ep, T, tp, b, nm, s, a, t, g, q, co, ro, nk, nc, nn, cnt, rs, re, ?_, ⟨⟨kp, wc, sk, mH_mH.symm⟩, mH_kM (kM_eq m3 (fun n h1 h2 => ?_)) m4, m4, m5, m6, _, (mH_o 78 (by omega)).trans (xset_s 78 rfl)⟩, hD.2.2.1, Nat.le_trans hjl hl, hD.2.2.2.2⟩, fun _ => ⟨_, (mH_o 78 (by omega)).trans (xset_s 78 rfl), updL_s⟩, Or.inl rfl⟩
    · rw [e_L_trim]
      simp only [s_L_trim_0, s_L_trim_1, s_L_trim_2, s_L_trim_3, s_L_trim_4, s_L_trim_7, s_L_trim_8, s_L_trim_9, s_L_trim_13, s_L_trim_14, s_L_trim_15, s_L_trim_16, x0, not_false_eq_true, Nat.reduceLT, Nat.reduceAdd, true_and, and_true, if_true, if_false, ite_true, ite_false, xnb_0, xnb_1, xnb_b, xk_v, xk_n, c_T_trim_i hc ht h, xJl_of hf1, xJf_of hf1, show vp_in (0 : Int32) 1 = True from nvp (i := 0) (by omega) (by omega), show (0 : Int32).toNatClampNeg = 0 from rfl]
    · refine (congrArg (fun Z => xcall E xprog (d + 4) 155 [.ref 63, .int (nI j)] Z Q) m1').trans ?_
      exact c_M_trim_i h
    · exact ivC_eq (ivC_len (j := j) hD.1) (fun n hn => by rw [mH_o n (by omega), xset_o n (by omega)])
    · rw [xset_o n (by rcases m4 with z | z <;> omega), xset_o n (by rcases m4 with z | z <;> omega)]
end TRIM
