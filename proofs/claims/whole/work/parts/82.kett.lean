/-! ===== what is asked of a kettle; a clipper's way ===== -/
section KETT
variable {E : xE} {d n : Nat} {Q : xR → Prop} {X H : xH} {Kb Ks K l : Nat} {ep th : Int32} {T : Nat → Nat} {tp : Nat → Int32} {b : Nat → Nat → Int32} {nm : Nat → Int64} {s : Nat → Int32} {a : Nat → Nat → Int32} {t : Nat → Int32} {g : Nat → Nat → Int32} {q : Nat → Int32} {co ro nk nc nn cnt : Nat} {rs re : Nat → Nat} {nw kp wc sk : Nat → Int32} {sz ea : Int32}
theorem f_M_isKettle (hM : kM H K g q) (hK : mK K) (c : Int32) : xcall E xprog (d + 2) 187 [.ref 63, .int c] (mH H K th sz ea tp nw kp wc sk) Q = Q (.inl (some (.int (xb (¬ c < 0 ∧ ¬ q 2 - 1 < c)))), (mH H K th sz ea tp nw kp wc sk)) := by
  rw [e_M_isKettle]
  simp only [s_M_isKettle_0, s_M_isKettle_1, s_M_isKettle_2, s_M_isKettle_3, s_M_isKettle_6, s_M_isKettle_9, s_M_isKettle_10, s_M_isKettle_11, s_M_isKettle_14, mF, mC, ml_64, mf_64, mw_63, mw_64, ml_74, mf_74, mw_74, ml_75, mf_75, mw_75, ml_76, mf_76, mw_76, ml_77, mf_77, mw_77, xll_11, xlg_11_0, xlg_11_1, xlg_11_2, xlg_11_3, xlg_11_4, xlg_11_5, xlg_11_6, xlg_11_7, xlg_11_8, xls_11_0, xls_11_1, xls_11_2, xls_11_3, xls_11_4, xls_11_5, xls_11_6, xls_11_7, xls_11_8, nF hM hK, nC hM hK, nl_0 hM hK, nl_1 hM hK, nl_2 hM hK, nl_3 hM hK, nl_4 hM hK, nl_5 hM hK, nl_6 hM hK, nl_7 hM hK, nf_0 hM hK, nf_1 hM hK, nf_2 hM hK, nf_3 hM hK, nf_4 hM hK, nf_5 hM hK, nf_6 hM hK, nf_7 hM hK, xll_9, xlg_9_0, xlg_9_1, xlg_9_2, xlg_9_3, xlg_9_4, xlg_9_5, xlg_9_6, xlg_9_7, xlg_9_8, xlg_9_9, xlg_9_10, xlg_9_11, xlg_9_12, xlg_9_13, not_false_eq_true, Nat.reduceLT, Nat.reduceAdd, true_and, and_true, if_true, if_false, ite_true, ite_false, xnb_0, xnb_1, xnb_b, xk_v, xk_n, f_M_isIn]
theorem c_M_becalmedFor_i (hM : kM H K g q) (hK : mK K) (hq : q 2 = nI nk) (h6 : nk ≤ 6) {i : Nat} (hi : i < nk) : xcall E xprog (d + 4) 191 [.ref 63, .int (nI i)] (mH H K th sz ea tp (nwO nn a t) kp wc sk) Q = Q (.inl (some (.int (a 0 i))), mH H K 0 sz ea tp (nwO nn a t) kp wc sk) := by
  have hx : (¬ nI i < 0 ∧ ¬ q 2 - 1 < nI i) := by
    rw [hq]
    refine (rng_in h6 _).mpr ⟨?_, ?_⟩
    · rw [nI_n0 i (by omega)]; exact id
    · rw [n_lt (by omega) (by omega)]; exact hi
  have zk := fun (Q : xR → Prop) => c_ke_0 (E := E) (d := d + 2) (Q := Q) (H := H) (K := K) (th := 0) (sz := sz) (ea := ea) (tp := tp) (nw := nwO nn a t) (kp := kp) (wc := wc) (sk := sk) i (show i < 6 by omega)
  rw [e_M_becalmedFor]
  simp only [s_M_becalmedFor_0, s_M_becalmedFor_1, s_M_becalmedFor_2, s_M_becalmedFor_5, s_M_becalmedFor_6, s_M_becalmedFor_7, s_M_becalmedFor_10, s_M_becalmedFor_13, s_M_becalmedFor_14, s_M_becalmedFor_15, s_M_becalmedFor_16, s_M_becalmedFor_19, s_M_becalmedFor_22, s_M_becalmedFor_23, s_M_becalmedFor_24, s_M_becalmedFor_27, mF, mC, ml_64, mf_64, mw_63, mw_64, ml_74, mf_74, mw_74, ml_75, mf_75, mw_75, ml_76, mf_76, mw_76, ml_77, mf_77, mw_77, xll_11, xlg_11_0, xlg_11_1, xlg_11_2, xlg_11_3, xlg_11_4, xlg_11_5, xlg_11_6, xlg_11_7, xlg_11_8, xls_11_0, xls_11_1, xls_11_2, xls_11_3, xls_11_4, xls_11_5, xls_11_6, xls_11_7, xls_11_8, nF hM hK, nC hM hK, nl_0 hM hK, nl_1 hM hK, nl_2 hM hK, nl_3 hM hK, nl_4 hM hK, nl_5 hM hK, nl_6 hM hK, nl_7 hM hK, nf_0 hM hK, nf_1 hM hK, nf_2 hM hK, nf_3 hM hK, nf_4 hM hK, nf_5 hM hK, nf_6 hM hK, nf_7 hM hK, xll_9, xlg_9_0, xlg_9_1, xlg_9_2, xlg_9_3, xlg_9_4, xlg_9_5, xlg_9_6, xlg_9_7, xlg_9_8, xlg_9_9, xlg_9_10, xlg_9_11, xlg_9_12, xlg_9_13, not_false_eq_true, Nat.reduceLT, Nat.reduceAdd, true_and, and_true, if_true, if_false, ite_true, ite_false, xnb_0, xnb_1, xnb_b, xk_v, xk_n, f_M_isKettle hM hK, xb_t hx, show ((1 : Int32) = 0) = False from eq_false (by decide), zk, nw_k0 (show i < 6 by omega)]
theorem c_M_becalmedFor_o (hM : kM H K g q) (hK : mK K) (hq : q 2 = nI nk) (h6 : nk ≤ 6) {c : Int32} (hc : c < 0 ∨ ¬ c < nI nk) : xcall E xprog (d + 4) 191 [.ref 63, .int c] (mH H K th sz ea tp nw kp wc sk) Q = Q (.inl (some (.int 0)), mH H K 1 sz ea tp nw kp wc sk) := by
  have hx : ¬ (¬ c < 0 ∧ ¬ q 2 - 1 < c) := by
    rw [hq]
    intro h
    obtain ⟨h1, h2⟩ := (rng_in h6 _).mp h
    rcases hc with r | r
    · exact h1 r
    · exact r h2
  rw [e_M_becalmedFor]
  simp only [s_M_becalmedFor_0, s_M_becalmedFor_1, s_M_becalmedFor_2, s_M_becalmedFor_5, s_M_becalmedFor_6, s_M_becalmedFor_7, s_M_becalmedFor_10, s_M_becalmedFor_13, s_M_becalmedFor_14, s_M_becalmedFor_15, s_M_becalmedFor_16, s_M_becalmedFor_19, s_M_becalmedFor_22, s_M_becalmedFor_23, s_M_becalmedFor_24, s_M_becalmedFor_27, mF, mC, ml_64, mf_64, mw_63, mw_64, ml_74, mf_74, mw_74, ml_75, mf_75, mw_75, ml_76, mf_76, mw_76, ml_77, mf_77, mw_77, xll_11, xlg_11_0, xlg_11_1, xlg_11_2, xlg_11_3, xlg_11_4, xlg_11_5, xlg_11_6, xlg_11_7, xlg_11_8, xls_11_0, xls_11_1, xls_11_2, xls_11_3, xls_11_4, xls_11_5, xls_11_6, xls_11_7, xls_11_8, nF hM hK, nC hM hK, nl_0 hM hK, nl_1 hM hK, nl_2 hM hK, nl_3 hM hK, nl_4 hM hK, nl_5 hM hK, nl_6 hM hK, nl_7 hM hK, nf_0 hM hK, nf_1 hM hK, nf_2 hM hK, nf_3 hM hK, nf_4 hM hK, nf_5 hM hK, nf_6 hM hK, nf_7 hM hK, xll_9, xlg_9_0, xlg_9_1, xlg_9_2, xlg_9_3, xlg_9_4, xlg_9_5, xlg_9_6, xlg_9_7, xlg_9_8, xlg_9_9, xlg_9_10, xlg_9_11, xlg_9_12, xlg_9_13, not_false_eq_true, Nat.reduceLT, Nat.reduceAdd, true_and, and_true, if_true, if_false, ite_true, ite_false, xnb_0, xnb_1, xnb_b, xk_v, xk_n, f_M_isKettle hM hK, xb_f hx, e_M_fail, s_M_fail_0, s_M_fail_1, s_M_fail_2, s_M_fail_5, s_M_fail_6]
theorem c_T_becalmedFor_o (hc : X.1 0 = tgC Kb Ks ep) (hB : kB X Kb b nm s) (hs : s 2 = nI nk) {c : Int32} (h : c < 0 ∨ ¬ c < nI nk) : xcall E xprog (d + 3) 80 [.ref 0, .int c] X Q = Q (.inr 14, xnew X (.inr (14, [])) 6) := by
  have z := fun (Q : xR → Prop) => f_T_needKettle (E := E) (d := d + 1) (Q := Q) hc hB c
  rw [hs] at z
  unfold tgC at hc
  rw [e_T_becalmedFor]
  simp only [s_T_becalmedFor_0, s_T_becalmedFor_1, s_T_becalmedFor_2, xc_of hc, not_false_eq_true, Nat.reduceLT, Nat.reduceAdd, true_and, and_true, if_true, if_false, ite_true, ite_false, xnb_0, xnb_1, xnb_b, xk_v, xk_n, z, eq_true h, xk_x (y := m_T_becalmedFor) rfl]
theorem c_T_becalmedFor_i (hc : X.1 0 = tgC Kb Ks ep) (hB : kB X Kb b nm s) (hY : kY X 43 Kb a t) (hs : s 2 = nI nk) (h6 : nk ≤ 6) {i : Nat} (hi : i < nk) : xcall E xprog (d + 3) 80 [.ref 0, .int (nI i)] X Q = Q (.inl (some (.int (a 0 i))), X) := by
  have z := fun (Q : xR → Prop) => f_T_needKettle (E := E) (d := d + 1) (Q := Q) hc hB (nI i)
  rw [hs] at z
  have h : ¬ (nI i < 0 ∨ ¬ nI i < nI nk) := by
    rw [nI_n0 i (by omega), n_lt (by omega) (by omega)]
    exact fun r => r.elim id (fun z => z hi)
  unfold tgC at hc
  obtain ⟨y0, y1, y2, y3, y4, y5, y6, y7, y8, y9⟩ := id hY
  rw [e_T_becalmedFor]
  simp only [s_T_becalmedFor_0, s_T_becalmedFor_1, s_T_becalmedFor_2, s_T_becalmedFor_5, s_T_becalmedFor_6, s_T_becalmedFor_9, s_T_becalmedFor_12, s_T_becalmedFor_13, s_T_becalmedFor_14, xc_of hc, xf_of hc, xll_8, xlg_8_0, xlg_8_1, xlg_8_2, xlg_8_3, xlg_8_4, xlg_8_5, xlg_8_6, xf_of y0, xc_of y0, xIl_of y1, xIf_of y1, xIl_of y2, xIf_of y2, xIl_of y3, xIf_of y3, xIl_of y4, xIf_of y4, xIl_of y5, xIf_of y5, xIl_of y6, xIf_of y6, xIl_of y7, xIf_of y7, xIl_of y8, xIf_of y8, xIl_of y9, xIf_of y9, xll_0, xlg_0_0, xlg_0_1, xlg_0_2, xlg_0_3, xlg_0_4, xlg_0_5, xlg_0_6, xlg_0_7, xlg_0_8, xlg_0_9, xlg_0_10, xlg_0_11, xlg_0_12, xlg_0_13, not_false_eq_true, Nat.reduceLT, Nat.reduceAdd, true_and, and_true, if_true, if_false, ite_true, ite_false, xnb_0, xnb_1, xnb_b, xk_v, xk_n, z, eq_false h, nvp (show i < 6 by omega) (by omega), ncl (show i < 2147483648 by omega)]
theorem st_becalmedFor (hI : IV n X) (p : Int32) : ∃ (k v : Int32) (X1 X2 : xH), (∀ Q, xcall E xprog (d + 4) 236 [.ref 0, .int p, .ref 78] X Q = Q (.inl (some (.int k)), X1)) ∧
    (∀ Q, xcall E xprog (d + 4) 191 [.ref 63, .int p] X1 Q = Q (.inl (some (.int v)), X2)) ∧ IVk n k X2 ∧ (k = 0 → ∃ f : Nat → Int64, X2.1 78 = xarJ 1 f ∧ f 0 = v.toInt64) ∧ (X2.2 = X.2 ∨ X2.2 = (X.2.1 + 1, X.2.2 + 6)) := by
  obtain ⟨Kb, Ks, K, l, ep, th, T, tp, b, nm, s, a, t, g, q, co, ro, nk, nc, nn, cnt, rs, re, hD⟩ := hI
  obtain ⟨hc, _, _, hB, _, hY, _, _⟩ := id hD.1
  have hs : s 2 = nI nk := hD.2.2.2.2.1.2.2.1.1
  have hq : q 2 = nI nk := hD.2.2.2.2.1.1.2.2.1
  have h6 : nk ≤ 6 := hD.2.2.2.2.1.1.2.2.2.1
  have x0 : xcl X 0 = 8 := by
    unfold tgC at hc
    exact xc_of hc
  by_cases h : p < 0 ∨ ¬ p < nI nk
  · obtain ⟨kp, wc, sk, m1, m2⟩ := ivD_th (ivD_new (c := .inr (14, [])) (k := 6) hD)
    refine ⟨1, 0, xnew X (.inr (14, [])) 6, _, fun Q => ?_, fun Q => ?_, ⟨Kb, Ks, K, l, ep, T, tp, b, nm, s, a, t, g, q, co, ro, nk, nc, nn, cnt, rs, re, m2 1 kp wc sk⟩, fun h => absurd h (by decide), Or.inr ?_⟩
    · rw [e_L_becalmedFor]
      simp only [s_L_becalmedFor_0, s_L_becalmedFor_1, s_L_becalmedFor_2, s_L_becalmedFor_3, s_L_becalmedFor_4, x0, not_false_eq_true, Nat.reduceLT, Nat.reduceAdd, true_and, and_true, if_true, if_false, ite_true, ite_false, xnb_0, xnb_1, xnb_b, xk_v, xk_n, c_T_becalmedFor_o hc hB hs h, k_becalmedFor_14, s_L_becalmedFor_13, s_L_becalmedFor_14]
    · refine (congrArg (fun Z => xcall E xprog (d + 4) 191 [.ref 63, .int p] Z Q) m1).trans ?_
      exact c_M_becalmedFor_o (ivD_new (c := .inr (14, [])) (k := 6) hD).2.1.2.1 (ivD_new (c := .inr (14, [])) (k := 6) hD).2.1.2.2.1 hq h6 h
    · rfl
  · have h1 : ¬ p < 0 := fun r => h (Or.inl r)
    have h2 : p < nI nk := Decidable.byContradiction fun r => h (Or.inr r)
    obtain ⟨i, hi, rfl⟩ := rng_ex h6 h1 h2
    obtain ⟨f, hf⟩ := hD.2.1.2.2.2.2.2
    have hD2 := ivD_out (f := vp_updL f 0 (a 0 i).toInt64) hD
    obtain ⟨kp, wc, sk, m1, m2⟩ := ivD_th hD2
    refine ⟨0, a 0 i, xset X 78 (xarJ 1 (vp_updL f 0 (a 0 i).toInt64)), _, fun Q => ?_, fun Q => ?_, ⟨Kb, Ks, K, l, ep, T, tp, b, nm, s, a, t, g, q, co, ro, nk, nc, nn, cnt, rs, re, m2 0 kp wc sk⟩, fun _ => ⟨_, (mH_o 78 (by omega)).trans (xset_s 78 rfl), updL_s⟩, Or.inl rfl⟩
    · rw [e_L_becalmedFor]
      simp only [s_L_becalmedFor_0, s_L_becalmedFor_1, s_L_becalmedFor_2, s_L_becalmedFor_3, s_L_becalmedFor_4, s_L_becalmedFor_7, s_L_becalmedFor_8, s_L_becalmedFor_9, s_L_becalmedFor_15, s_L_becalmedFor_16, x0, not_false_eq_true, Nat.reduceLT, Nat.reduceAdd, true_and, and_true, if_true, if_false, ite_true, ite_false, xnb_0, xnb_1, xnb_b, xk_v, xk_n, c_T_becalmedFor_i hc hB hY hs h6 hi, xJl_of hf, xJf_of hf, show vp_in (0 : Int32) 1 = True from nvp (i := 0) (by omega) (by omega), show (0 : Int32).toNatClampNeg = 0 from rfl]
    · refine (congrArg (fun Z => xcall E xprog (d + 4) 191 [.ref 63, .int (nI i)] Z Q) m1).trans ?_
      rw [c_M_becalmedFor_i hD2.2.1.2.1 hD2.2.1.2.2.1 hq h6 hi]
theorem c_M_visitsTo_i (hM : kM H K g q) (hK : mK K) (hq : q 2 = nI nk) (h6 : nk ≤ 6) {i : Nat} (hi : i < nk) : xcall E xprog (d + 4) 192 [.ref 63, .int (nI i)] (mH H K th sz ea tp (nwO nn a t) kp wc sk) Q = Q (.inl (some (.int (a 2 i))), mH H K 0 sz ea tp (nwO nn a t) kp wc sk) := by
  have hx : (¬ nI i < 0 ∧ ¬ q 2 - 1 < nI i) := by
    rw [hq]
    refine (rng_in h6 _).mpr ⟨?_, ?_⟩
    · rw [nI_n0 i (by omega)]; exact id
    · rw [n_lt (by omega) (by omega)]; exact hi
  have zk := fun (Q : xR → Prop) => c_ke_1 (E := E) (d := d + 2) (Q := Q) (H := H) (K := K) (th := 0) (sz := sz) (ea := ea) (tp := tp) (nw := nwO nn a t) (kp := kp) (wc := wc) (sk := sk) i (show i < 6 by omega)
  rw [e_M_visitsTo]
  simp only [s_M_visitsTo_0, s_M_visitsTo_1, s_M_visitsTo_2, s_M_visitsTo_5, s_M_visitsTo_6, s_M_visitsTo_7, s_M_visitsTo_10, s_M_visitsTo_13, s_M_visitsTo_14, s_M_visitsTo_15, s_M_visitsTo_16, s_M_visitsTo_19, s_M_visitsTo_22, s_M_visitsTo_23, s_M_visitsTo_24, s_M_visitsTo_27, mF, mC, ml_64, mf_64, mw_63, mw_64, ml_74, mf_74, mw_74, ml_75, mf_75, mw_75, ml_76, mf_76, mw_76, ml_77, mf_77, mw_77, xll_11, xlg_11_0, xlg_11_1, xlg_11_2, xlg_11_3, xlg_11_4, xlg_11_5, xlg_11_6, xlg_11_7, xlg_11_8, xls_11_0, xls_11_1, xls_11_2, xls_11_3, xls_11_4, xls_11_5, xls_11_6, xls_11_7, xls_11_8, nF hM hK, nC hM hK, nl_0 hM hK, nl_1 hM hK, nl_2 hM hK, nl_3 hM hK, nl_4 hM hK, nl_5 hM hK, nl_6 hM hK, nl_7 hM hK, nf_0 hM hK, nf_1 hM hK, nf_2 hM hK, nf_3 hM hK, nf_4 hM hK, nf_5 hM hK, nf_6 hM hK, nf_7 hM hK, xll_9, xlg_9_0, xlg_9_1, xlg_9_2, xlg_9_3, xlg_9_4, xlg_9_5, xlg_9_6, xlg_9_7, xlg_9_8, xlg_9_9, xlg_9_10, xlg_9_11, xlg_9_12, xlg_9_13, not_false_eq_true, Nat.reduceLT, Nat.reduceAdd, true_and, and_true, if_true, if_false, ite_true, ite_false, xnb_0, xnb_1, xnb_b, xk_v, xk_n, f_M_isKettle hM hK, xb_t hx, show ((1 : Int32) = 0) = False from eq_false (by decide), zk, nw_k1 (show i < 6 by omega)]
theorem c_M_visitsTo_o (hM : kM H K g q) (hK : mK K) (hq : q 2 = nI nk) (h6 : nk ≤ 6) {c : Int32} (hc : c < 0 ∨ ¬ c < nI nk) : xcall E xprog (d + 4) 192 [.ref 63, .int c] (mH H K th sz ea tp nw kp wc sk) Q = Q (.inl (some (.int 0)), mH H K 1 sz ea tp nw kp wc sk) := by
  have hx : ¬ (¬ c < 0 ∧ ¬ q 2 - 1 < c) := by
    rw [hq]
    intro h
    obtain ⟨h1, h2⟩ := (rng_in h6 _).mp h
    rcases hc with r | r
    · exact h1 r
    · exact r h2
  rw [e_M_visitsTo]
  simp only [s_M_visitsTo_0, s_M_visitsTo_1, s_M_visitsTo_2, s_M_visitsTo_5, s_M_visitsTo_6, s_M_visitsTo_7, s_M_visitsTo_10, s_M_visitsTo_13, s_M_visitsTo_14, s_M_visitsTo_15, s_M_visitsTo_16, s_M_visitsTo_19, s_M_visitsTo_22, s_M_visitsTo_23, s_M_visitsTo_24, s_M_visitsTo_27, mF, mC, ml_64, mf_64, mw_63, mw_64, ml_74, mf_74, mw_74, ml_75, mf_75, mw_75, ml_76, mf_76, mw_76, ml_77, mf_77, mw_77, xll_11, xlg_11_0, xlg_11_1, xlg_11_2, xlg_11_3, xlg_11_4, xlg_11_5, xlg_11_6, xlg_11_7, xlg_11_8, xls_11_0, xls_11_1, xls_11_2, xls_11_3, xls_11_4, xls_11_5, xls_11_6, xls_11_7, xls_11_8, nF hM hK, nC hM hK, nl_0 hM hK, nl_1 hM hK, nl_2 hM hK, nl_3 hM hK, nl_4 hM hK, nl_5 hM hK, nl_6 hM hK, nl_7 hM hK, nf_0 hM hK, nf_1 hM hK, nf_2 hM hK, nf_3 hM hK, nf_4 hM hK, nf_5 hM hK, nf_6 hM hK, nf_7 hM hK, xll_9, xlg_9_0, xlg_9_1, xlg_9_2, xlg_9_3, xlg_9_4, xlg_9_5, xlg_9_6, xlg_9_7, xlg_9_8, xlg_9_9, xlg_9_10, xlg_9_11, xlg_9_12, xlg_9_13, not_false_eq_true, Nat.reduceLT, Nat.reduceAdd, true_and, and_true, if_true, if_false, ite_true, ite_false, xnb_0, xnb_1, xnb_b, xk_v, xk_n, f_M_isKettle hM hK, xb_f hx, e_M_fail, s_M_fail_0, s_M_fail_1, s_M_fail_2, s_M_fail_5, s_M_fail_6]
theorem c_T_visitsTo_o (hc : X.1 0 = tgC Kb Ks ep) (hB : kB X Kb b nm s) (hs : s 2 = nI nk) {c : Int32} (h : c < 0 ∨ ¬ c < nI nk) : xcall E xprog (d + 3) 81 [.ref 0, .int c] X Q = Q (.inr 14, xnew X (.inr (14, [])) 6) := by
  have z := fun (Q : xR → Prop) => f_T_needKettle (E := E) (d := d + 1) (Q := Q) hc hB c
  rw [hs] at z
  unfold tgC at hc
  rw [e_T_visitsTo]
  simp only [s_T_visitsTo_0, s_T_visitsTo_1, s_T_visitsTo_2, xc_of hc, not_false_eq_true, Nat.reduceLT, Nat.reduceAdd, true_and, and_true, if_true, if_false, ite_true, ite_false, xnb_0, xnb_1, xnb_b, xk_v, xk_n, z, eq_true h, xk_x (y := m_T_visitsTo) rfl]
theorem c_T_visitsTo_i (hc : X.1 0 = tgC Kb Ks ep) (hB : kB X Kb b nm s) (hY : kY X 43 Kb a t) (hs : s 2 = nI nk) (h6 : nk ≤ 6) {i : Nat} (hi : i < nk) : xcall E xprog (d + 3) 81 [.ref 0, .int (nI i)] X Q = Q (.inl (some (.int (a 2 i))), X) := by
  have z := fun (Q : xR → Prop) => f_T_needKettle (E := E) (d := d + 1) (Q := Q) hc hB (nI i)
  rw [hs] at z
  have h : ¬ (nI i < 0 ∨ ¬ nI i < nI nk) := by
    rw [nI_n0 i (by omega), n_lt (by omega) (by omega)]
    exact fun r => r.elim id (fun z => z hi)
  unfold tgC at hc
  obtain ⟨y0, y1, y2, y3, y4, y5, y6, y7, y8, y9⟩ := id hY
  rw [e_T_visitsTo]
  simp only [s_T_visitsTo_0, s_T_visitsTo_1, s_T_visitsTo_2, s_T_visitsTo_5, s_T_visitsTo_6, s_T_visitsTo_9, s_T_visitsTo_12, s_T_visitsTo_13, s_T_visitsTo_14, xc_of hc, xf_of hc, xll_8, xlg_8_0, xlg_8_1, xlg_8_2, xlg_8_3, xlg_8_4, xlg_8_5, xlg_8_6, xf_of y0, xc_of y0, xIl_of y1, xIf_of y1, xIl_of y2, xIf_of y2, xIl_of y3, xIf_of y3, xIl_of y4, xIf_of y4, xIl_of y5, xIf_of y5, xIl_of y6, xIf_of y6, xIl_of y7, xIf_of y7, xIl_of y8, xIf_of y8, xIl_of y9, xIf_of y9, xll_0, xlg_0_0, xlg_0_1, xlg_0_2, xlg_0_3, xlg_0_4, xlg_0_5, xlg_0_6, xlg_0_7, xlg_0_8, xlg_0_9, xlg_0_10, xlg_0_11, xlg_0_12, xlg_0_13, not_false_eq_true, Nat.reduceLT, Nat.reduceAdd, true_and, and_true, if_true, if_false, ite_true, ite_false, xnb_0, xnb_1, xnb_b, xk_v, xk_n, z, eq_false h, nvp (show i < 6 by omega) (by omega), ncl (show i < 2147483648 by omega)]
theorem st_visitsTo (hI : IV n X) (p : Int32) : ∃ (k v : Int32) (X1 X2 : xH), (∀ Q, xcall E xprog (d + 4) 237 [.ref 0, .int p, .ref 78] X Q = Q (.inl (some (.int k)), X1)) ∧
    (∀ Q, xcall E xprog (d + 4) 192 [.ref 63, .int p] X1 Q = Q (.inl (some (.int v)), X2)) ∧ IVk n k X2 ∧ (k = 0 → ∃ f : Nat → Int64, X2.1 78 = xarJ 1 f ∧ f 0 = v.toInt64) ∧ (X2.2 = X.2 ∨ X2.2 = (X.2.1 + 1, X.2.2 + 6)) := by
  obtain ⟨Kb, Ks, K, l, ep, th, T, tp, b, nm, s, a, t, g, q, co, ro, nk, nc, nn, cnt, rs, re, hD⟩ := hI
  obtain ⟨hc, _, _, hB, _, hY, _, _⟩ := id hD.1
  have hs : s 2 = nI nk := hD.2.2.2.2.1.2.2.1.1
  have hq : q 2 = nI nk := hD.2.2.2.2.1.1.2.2.1
  have h6 : nk ≤ 6 := hD.2.2.2.2.1.1.2.2.2.1
  have x0 : xcl X 0 = 8 := by
    unfold tgC at hc
    exact xc_of hc
  by_cases h : p < 0 ∨ ¬ p < nI nk
  · obtain ⟨kp, wc, sk, m1, m2⟩ := ivD_th (ivD_new (c := .inr (14, [])) (k := 6) hD)
    refine ⟨1, 0, xnew X (.inr (14, [])) 6, _, fun Q => ?_, fun Q => ?_, ⟨Kb, Ks, K, l, ep, T, tp, b, nm, s, a, t, g, q, co, ro, nk, nc, nn, cnt, rs, re, m2 1 kp wc sk⟩, fun h => absurd h (by decide), Or.inr ?_⟩
    · rw [e_L_visitsTo]
      simp only [s_L_visitsTo_0, s_L_visitsTo_1, s_L_visitsTo_2, s_L_visitsTo_3, s_L_visitsTo_4, x0, not_false_eq_true, Nat.reduceLT, Nat.reduceAdd, true_and, and_true, if_true, if_false, ite_true, ite_false, xnb_0, xnb_1, xnb_b, xk_v, xk_n, c_T_visitsTo_o hc hB hs h, k_visitsTo_14, s_L_visitsTo_13, s_L_visitsTo_14]
    · refine (congrArg (fun Z => xcall E xprog (d + 4) 192 [.ref 63, .int p] Z Q) m1).trans ?_
      exact c_M_visitsTo_o (ivD_new (c := .inr (14, [])) (k := 6) hD).2.1.2.1 (ivD_new (c := .inr (14, [])) (k := 6) hD).2.1.2.2.1 hq h6 h
    · rfl
  · have h1 : ¬ p < 0 := fun r => h (Or.inl r)
    have h2 : p < nI nk := Decidable.byContradiction fun r => h (Or.inr r)
    obtain ⟨i, hi, rfl⟩ := rng_ex h6 h1 h2
    obtain ⟨f, hf⟩ := hD.2.1.2.2.2.2.2
    have hD2 := ivD_out (f := vp_updL f 0 (a 2 i).toInt64) hD
    obtain ⟨kp, wc, sk, m1, m2⟩ := ivD_th hD2
    refine ⟨0, a 2 i, xset X 78 (xarJ 1 (vp_updL f 0 (a 2 i).toInt64)), _, fun Q => ?_, fun Q => ?_, ⟨Kb, Ks, K, l, ep, T, tp, b, nm, s, a, t, g, q, co, ro, nk, nc, nn, cnt, rs, re, m2 0 kp wc sk⟩, fun _ => ⟨_, (mH_o 78 (by omega)).trans (xset_s 78 rfl), updL_s⟩, Or.inl rfl⟩
    · rw [e_L_visitsTo]
      simp only [s_L_visitsTo_0, s_L_visitsTo_1, s_L_visitsTo_2, s_L_visitsTo_3, s_L_visitsTo_4, s_L_visitsTo_7, s_L_visitsTo_8, s_L_visitsTo_9, s_L_visitsTo_15, s_L_visitsTo_16, x0, not_false_eq_true, Nat.reduceLT, Nat.reduceAdd, true_and, and_true, if_true, if_false, ite_true, ite_false, xnb_0, xnb_1, xnb_b, xk_v, xk_n, c_T_visitsTo_i hc hB hY hs h6 hi, xJl_of hf, xJf_of hf, show vp_in (0 : Int32) 1 = True from nvp (i := 0) (by omega) (by omega), show (0 : Int32).toNatClampNeg = 0 from rfl]
    · refine (congrArg (fun Z => xcall E xprog (d + 4) 192 [.ref 63, .int (nI i)] Z Q) m1).trans ?_
      rw [c_M_visitsTo_i hD2.2.1.2.1 hD2.2.1.2.2.1 hq h6 hi]
theorem c_M_speedOf_i (hM : kM H K g q) (hK : mK K) (hq : q 4 = nI nn) (h6 : nn ≤ 6) {i : Nat} (hi : i < nn) : xcall E xprog (d + 4) 202 [.ref 63, .int (nI i)] (mH H K th sz ea tp (nwO nn a t) kp wc sk) Q = Q (.inl (some (.int (spdC a t i))), mH H K 0 sz ea tp (nwO nn a t) kp wc sk) := by
  have hx : (¬ nI i < 0 ∧ ¬ q 4 - 1 < nI i) := by
    rw [hq]
    refine (rng_in h6 _).mpr ⟨?_, ?_⟩
    · rw [nI_n0 i (by omega)]; exact id
    · rw [n_lt (by omega) (by omega)]; exact hi
  rw [e_M_speedOf]
  simp only [s_M_speedOf_0, s_M_speedOf_1, s_M_speedOf_2, s_M_speedOf_5, s_M_speedOf_6, s_M_speedOf_7, s_M_speedOf_10, s_M_speedOf_13, s_M_speedOf_14, s_M_speedOf_15, s_M_speedOf_18, s_M_speedOf_21, s_M_speedOf_22, s_M_speedOf_23, s_M_speedOf_26, mF, mC, ml_64, mf_64, mw_63, mw_64, ml_74, mf_74, mw_74, ml_75, mf_75, mw_75, ml_76, mf_76, mw_76, ml_77, mf_77, mw_77, xll_11, xlg_11_0, xlg_11_1, xlg_11_2, xlg_11_3, xlg_11_4, xlg_11_5, xlg_11_6, xlg_11_7, xlg_11_8, xls_11_0, xls_11_1, xls_11_2, xls_11_3, xls_11_4, xls_11_5, xls_11_6, xls_11_7, xls_11_8, nF hM hK, nC hM hK, nl_0 hM hK, nl_1 hM hK, nl_2 hM hK, nl_3 hM hK, nl_4 hM hK, nl_5 hM hK, nl_6 hM hK, nl_7 hM hK, nf_0 hM hK, nf_1 hM hK, nf_2 hM hK, nf_3 hM hK, nf_4 hM hK, nf_5 hM hK, nf_6 hM hK, nf_7 hM hK, xll_9, xlg_9_0, xlg_9_1, xlg_9_2, xlg_9_3, xlg_9_4, xlg_9_5, xlg_9_6, xlg_9_7, xlg_9_8, xlg_9_9, xlg_9_10, xlg_9_11, xlg_9_12, xlg_9_13, not_false_eq_true, Nat.reduceLT, Nat.reduceAdd, true_and, and_true, if_true, if_false, ite_true, ite_false, xnb_0, xnb_1, xnb_b, xk_v, xk_n, f_M_isClipper hM hK, xb_t hx, show ((1 : Int32) = 0) = False from eq_false (by decide), f_M_speed nn i hi h6]
theorem c_M_speedOf_o (hM : kM H K g q) (hK : mK K) (hq : q 4 = nI nn) (h6 : nn ≤ 6) {c : Int32} (hc : c < 0 ∨ ¬ c < nI nn) : xcall E xprog (d + 4) 202 [.ref 63, .int c] (mH H K th sz ea tp nw kp wc sk) Q = Q (.inl (some (.int 0)), mH H K 1 sz ea tp nw kp wc sk) := by
  have hx : ¬ (¬ c < 0 ∧ ¬ q 4 - 1 < c) := by
    rw [hq]
    intro h
    obtain ⟨h1, h2⟩ := (rng_in h6 _).mp h
    rcases hc with r | r
    · exact h1 r
    · exact r h2
  rw [e_M_speedOf]
  simp only [s_M_speedOf_0, s_M_speedOf_1, s_M_speedOf_2, s_M_speedOf_5, s_M_speedOf_6, s_M_speedOf_7, s_M_speedOf_10, s_M_speedOf_13, s_M_speedOf_14, s_M_speedOf_15, s_M_speedOf_18, s_M_speedOf_21, s_M_speedOf_22, s_M_speedOf_23, s_M_speedOf_26, mF, mC, ml_64, mf_64, mw_63, mw_64, ml_74, mf_74, mw_74, ml_75, mf_75, mw_75, ml_76, mf_76, mw_76, ml_77, mf_77, mw_77, xll_11, xlg_11_0, xlg_11_1, xlg_11_2, xlg_11_3, xlg_11_4, xlg_11_5, xlg_11_6, xlg_11_7, xlg_11_8, xls_11_0, xls_11_1, xls_11_2, xls_11_3, xls_11_4, xls_11_5, xls_11_6, xls_11_7, xls_11_8, nF hM hK, nC hM hK, nl_0 hM hK, nl_1 hM hK, nl_2 hM hK, nl_3 hM hK, nl_4 hM hK, nl_5 hM hK, nl_6 hM hK, nl_7 hM hK, nf_0 hM hK, nf_1 hM hK, nf_2 hM hK, nf_3 hM hK, nf_4 hM hK, nf_5 hM hK, nf_6 hM hK, nf_7 hM hK, xll_9, xlg_9_0, xlg_9_1, xlg_9_2, xlg_9_3, xlg_9_4, xlg_9_5, xlg_9_6, xlg_9_7, xlg_9_8, xlg_9_9, xlg_9_10, xlg_9_11, xlg_9_12, xlg_9_13, not_false_eq_true, Nat.reduceLT, Nat.reduceAdd, true_and, and_true, if_true, if_false, ite_true, ite_false, xnb_0, xnb_1, xnb_b, xk_v, xk_n, f_M_isClipper hM hK, xb_f hx, e_M_fail, s_M_fail_0, s_M_fail_1, s_M_fail_2, s_M_fail_5, s_M_fail_6]
theorem c_T_speedOf_o (hc : X.1 0 = tgC Kb Ks ep) (hB : kB X Kb b nm s) (hs : s 4 = nI nn) {c : Int32} (h : c < 0 ∨ ¬ c < nI nn) : xcall E xprog (d + 3) 90 [.ref 0, .int c] X Q = Q (.inr 14, xnew X (.inr (14, [])) 6) := by
  have z := fun (Q : xR → Prop) => f_T_needClipper (E := E) (d := d + 1) (Q := Q) hc hB c
  rw [hs] at z
  unfold tgC at hc
  rw [e_T_speedOf]
  simp only [s_T_speedOf_0, s_T_speedOf_1, s_T_speedOf_2, xc_of hc, not_false_eq_true, Nat.reduceLT, Nat.reduceAdd, true_and, and_true, if_true, if_false, ite_true, ite_false, xnb_0, xnb_1, xnb_b, xk_v, xk_n, z, eq_true h, xk_x (y := m_T_speedOf) rfl]
theorem c_T_speedOf_i (hc : X.1 0 = tgC Kb Ks ep) (hB : kB X Kb b nm s) (hY : kY X 43 Kb a t) (hs : s 4 = nI nn) (h6 : nn ≤ 6) {i : Nat} (hi : i < nn) : xcall E xprog (d + 3) 90 [.ref 0, .int (nI i)] X Q = Q (.inl (some (.int (spdC a t i))), X) := by
  have z := fun (Q : xR → Prop) => f_T_needClipper (E := E) (d := d + 1) (Q := Q) hc hB (nI i)
  rw [hs] at z
  have h : ¬ (nI i < 0 ∨ ¬ nI i < nI nn) := by
    rw [nI_n0 i (by omega), n_lt (by omega) (by omega)]
    exact fun r => r.elim id (fun z => z hi)
  unfold tgC at hc
  obtain ⟨y0, y1, y2, y3, y4, y5, y6, y7, y8, y9⟩ := id hY
  rw [e_T_speedOf]
  simp only [s_T_speedOf_0, s_T_speedOf_1, s_T_speedOf_2, s_T_speedOf_5, s_T_speedOf_6, s_T_speedOf_9, s_T_speedOf_10, s_T_speedOf_13, xc_of hc, xf_of hc, xll_8, xlg_8_0, xlg_8_1, xlg_8_2, xlg_8_3, xlg_8_4, xlg_8_5, xlg_8_6, xf_of y0, xc_of y0, xIl_of y1, xIf_of y1, xIl_of y2, xIf_of y2, xIl_of y3, xIf_of y3, xIl_of y4, xIf_of y4, xIl_of y5, xIf_of y5, xIl_of y6, xIf_of y6, xIl_of y7, xIf_of y7, xIl_of y8, xIf_of y8, xIl_of y9, xIf_of y9, xll_0, xlg_0_0, xlg_0_1, xlg_0_2, xlg_0_3, xlg_0_4, xlg_0_5, xlg_0_6, xlg_0_7, xlg_0_8, xlg_0_9, xlg_0_10, xlg_0_11, xlg_0_12, xlg_0_13, not_false_eq_true, Nat.reduceLT, Nat.reduceAdd, true_and, and_true, if_true, if_false, ite_true, ite_false, xnb_0, xnb_1, xnb_b, xk_v, xk_n, z, eq_false h, nvp (show i < 6 by omega) (by omega), ncl (show i < 2147483648 by omega), f_Bay_wayOfAnHour hY i (show i < 6 by omega), spdC]
theorem st_speedOf (hI : IV n X) (p : Int32) : ∃ (k v : Int32) (X1 X2 : xH), (∀ Q, xcall E xprog (d + 4) 243 [.ref 0, .int p, .ref 78] X Q = Q (.inl (some (.int k)), X1)) ∧
    (∀ Q, xcall E xprog (d + 4) 202 [.ref 63, .int p] X1 Q = Q (.inl (some (.int v)), X2)) ∧ IVk n k X2 ∧ (k = 0 → ∃ f : Nat → Int64, X2.1 78 = xarJ 1 f ∧ f 0 = v.toInt64) ∧ (X2.2 = X.2 ∨ X2.2 = (X.2.1 + 1, X.2.2 + 6)) := by
  obtain ⟨Kb, Ks, K, l, ep, th, T, tp, b, nm, s, a, t, g, q, co, ro, nk, nc, nn, cnt, rs, re, hD⟩ := hI
  obtain ⟨hc, _, _, hB, _, hY, _, _⟩ := id hD.1
  have hs : s 4 = nI nn := hD.2.2.2.2.1.2.2.1.2.2.2.2.1
  have hq : q 4 = nI nn := hD.2.2.2.2.1.2.1.1
  have h6 : nn ≤ 6 := hD.2.2.2.2.1.2.1.2.1
  have x0 : xcl X 0 = 8 := by
    unfold tgC at hc
    exact xc_of hc
  by_cases h : p < 0 ∨ ¬ p < nI nn
  · obtain ⟨kp, wc, sk, m1, m2⟩ := ivD_th (ivD_new (c := .inr (14, [])) (k := 6) hD)
    refine ⟨1, 0, xnew X (.inr (14, [])) 6, _, fun Q => ?_, fun Q => ?_, ⟨Kb, Ks, K, l, ep, T, tp, b, nm, s, a, t, g, q, co, ro, nk, nc, nn, cnt, rs, re, m2 1 kp wc sk⟩, fun h => absurd h (by decide), Or.inr ?_⟩
    · rw [e_L_speedOf]
      simp only [s_L_speedOf_0, s_L_speedOf_1, s_L_speedOf_2, s_L_speedOf_3, s_L_speedOf_4, x0, not_false_eq_true, Nat.reduceLT, Nat.reduceAdd, true_and, and_true, if_true, if_false, ite_true, ite_false, xnb_0, xnb_1, xnb_b, xk_v, xk_n, c_T_speedOf_o hc hB hs h, k_speedOf_14, s_L_speedOf_13, s_L_speedOf_14]
    · refine (congrArg (fun Z => xcall E xprog (d + 4) 202 [.ref 63, .int p] Z Q) m1).trans ?_
      exact c_M_speedOf_o (ivD_new (c := .inr (14, [])) (k := 6) hD).2.1.2.1 (ivD_new (c := .inr (14, [])) (k := 6) hD).2.1.2.2.1 hq h6 h
    · rfl
  · have h1 : ¬ p < 0 := fun r => h (Or.inl r)
    have h2 : p < nI nn := Decidable.byContradiction fun r => h (Or.inr r)
    obtain ⟨i, hi, rfl⟩ := rng_ex h6 h1 h2
    obtain ⟨f, hf⟩ := hD.2.1.2.2.2.2.2
    have hD2 := ivD_out (f := vp_updL f 0 (spdC a t i).toInt64) hD
    obtain ⟨kp, wc, sk, m1, m2⟩ := ivD_th hD2
    refine ⟨0, spdC a t i, xset X 78 (xarJ 1 (vp_updL f 0 (spdC a t i).toInt64)), _, fun Q => ?_, fun Q => ?_, ⟨Kb, Ks, K, l, ep, T, tp, b, nm, s, a, t, g, q, co, ro, nk, nc, nn, cnt, rs, re, m2 0 kp wc sk⟩, fun _ => ⟨_, (mH_o 78 (by omega)).trans (xset_s 78 rfl), updL_s⟩, Or.inl rfl⟩
    · rw [e_L_speedOf]
      simp only [s_L_speedOf_0, s_L_speedOf_1, s_L_speedOf_2, s_L_speedOf_3, s_L_speedOf_4, s_L_speedOf_7, s_L_speedOf_8, s_L_speedOf_9, s_L_speedOf_15, s_L_speedOf_16, x0, not_false_eq_true, Nat.reduceLT, Nat.reduceAdd, true_and, and_true, if_true, if_false, ite_true, ite_false, xnb_0, xnb_1, xnb_b, xk_v, xk_n, c_T_speedOf_i hc hB hY hs h6 hi, xJl_of hf, xJf_of hf, show vp_in (0 : Int32) 1 = True from nvp (i := 0) (by omega) (by omega), show (0 : Int32).toNatClampNeg = 0 from rfl]
    · refine (congrArg (fun Z => xcall E xprog (d + 4) 202 [.ref 63, .int (nI i)] Z Q) m1).trans ?_
      rw [c_M_speedOf_i hD2.2.1.2.1 hD2.2.1.2.2.1 hq h6 hi]
end KETT
