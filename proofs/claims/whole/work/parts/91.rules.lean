/-! ===== what a rule tells, whether a clipper would stay, where it steers ===== -/
section RULES
variable {E : xE} {d D n n' Ln Mn : Nat} {Q : xR → Prop} {X X1 H : xH} {Kb Ks Kt K l : Nat} {ep th k v : Int32} {La Ma : List Value} {T : Nat → Nat} {tp : Nat → Int32} {b : Nat → Nat → Int32} {nm : Nat → Int64} {s : Nat → Int32} {a a' : Nat → Nat → Int32} {t t' : Nat → Int32} {g : Nat → Nat → Int32} {q : Nat → Int32} {co ro nk nc nn cnt : Nat} {rs re : Nat → Nat} {nw kp wc sk ms : Nat → Int32} {sz ea h : Int32} {W : Int32 → Int64 → Prop}
/-- what a clipper's rule tells -/
def tvC (a b : Nat → Nat → Int32) (t s : Nat → Int32) (nk : Nat) (rs re : Nat → Nat) (c : Nat) (ms sk : Nat → Int32) : Int32 := popV (teR a b t s nk c (rs c) (re c) ms sk)
theorem g_Bay_tell (hB : kB X Kb b nm s) (hK : Kb < 26) (hY : kY X 43 Kb a t) (hT : kT X ms sk h) (hW : kW b s nk nc nn cnt rs re) {i : Nat} (hi : i < nn) : ∃ (ms' sk' : Nat → Int32) (h' : Int32), ∀ Q,
    xcall E xprog (d + 4) 9 [.ref 43, .int (nI i)] X Q = Q (.inl (some (.int (tvC a b t s nk rs re i ms sk))), sH X 43 Kb a t ms' sk' h') := by
  obtain ⟨w1, w2, w3, w4, w5, w6, w7, w8, w9⟩ := id hW
  have wc := w9 i hi
  refine ⟨_, _, _, fun Q => (congrArg (fun Z => xcall E xprog (d + 4) 9 [.ref 43, .int (nI i)] Z Q) (sH_of hY hT)).trans (f_Bay_tell hB hK (show 42 < 43 by omega) nk w1 w2 i (by omega) cnt (rs i) (re i) w7 w8 wc.2.1 wc.1 wc.2.2.1 wc.2.2.2)⟩
theorem g_M_rule (hM : kM H K g q) (hK : mK K) (hT : kTwo b s g q co ro nk nc nn cnt rs re) (hS : kSt a t co ro nk nn n) {c : Nat} (hc : c < nn) (ms f : Nat → Int32) : ∃ f', ∀ Q,
    xcall E xprog (d + 7) 173 [.ref 63, .int (nI c)] (mH H K th sz ea tp (nwO nn a t) kp wc f) Q = Q (.inl (some (.int (tvC a b t s nk rs re c ms sk))), mH H K th sz ea tp (nwO nn a t) kp wc f') := by
  obtain ⟨h1, h2, h3, _, h5, h6, h7, h8, h9, h10⟩ := id hT
  obtain ⟨w1, w2, w3, w4, w5, w6, w7, w8, w9⟩ := id h3
  have wc' := w9 c hc
  refine ⟨(rrn (tms a b t s nk c ms) (b 0) (b 1) (rs c) (re c - rs c) (f, 0)).1, fun Q => ?_⟩
  unfold tvC
  rw [← te_same hT hc ms ms sk f]
  exact f_M_rule hM hK nk nn cnt rs re h1 h2 (kSt_b hS) w8 h9 c hc wc'.1 wc'.2.1 (kTwo_sme hT hS hc (nI 0)) (h10 c hc) f
theorem c_T_ruleTells_o (hc : X.1 0 = tgC Kb Ks ep) (hB : kB X Kb b nm s) (hs : s 4 = nI nn) {c : Int32} (h : c < 0 ∨ ¬ c < nI nn) : xcall E xprog (d + 2) 94 [.ref 0, .int c] X Q = Q (.inr 14, xnew X (.inr (14, [])) 6) := by
  have z := fun (Q : xR → Prop) => f_T_needClipper (E := E) (d := d) (Q := Q) hc hB c
  rw [hs] at z
  unfold tgC at hc
  rw [e_T_ruleTells]
  simp only [s_T_ruleTells_0, s_T_ruleTells_1, s_T_ruleTells_2, s_T_ruleTells_5, s_T_ruleTells_6, s_T_ruleTells_9, s_T_ruleTells_10, s_T_ruleTells_13, xc_of hc, not_false_eq_true, Nat.reduceLT, Nat.reduceAdd, true_and, and_true, if_true, if_false, ite_true, ite_false, xnb_0, xnb_1, xnb_b, xk_v, xk_n, z, eq_true h, xk_x (y := m_T_ruleTells) rfl]
theorem c_M_ruleTells_o (hM : kM H K g q) (hK : mK K) (hC : kRc b s g q nn rs re) {c : Int32} (h : c < 0 ∨ ¬ c < nI nn) : xcall E xprog (d + 3) 206 [.ref 63, .int c] (mH H K th sz ea tp nw kp wc sk) Q = Q (.inl (some (.int 0)), mH H K 1 sz ea tp nw kp wc sk) := by
  rw [e_M_ruleTells]
  simp only [s_M_ruleTells_0, s_M_ruleTells_1, s_M_ruleTells_2, s_M_ruleTells_5, s_M_ruleTells_6, s_M_ruleTells_7, s_M_ruleTells_10, s_M_ruleTells_13, s_M_ruleTells_14, s_M_ruleTells_15, s_M_ruleTells_18, s_M_ruleTells_21, s_M_ruleTells_22, s_M_ruleTells_23, s_M_ruleTells_26, mF, mC, ml_64, mf_64, mw_63, mw_64, ml_74, mf_74, mw_74, ml_75, mf_75, mw_75, ml_76, mf_76, mw_76, ml_77, mf_77, mw_77, xll_11, xlg_11_0, xlg_11_1, xlg_11_2, xlg_11_3, xlg_11_4, xlg_11_5, xlg_11_6, xlg_11_7, xlg_11_8, xls_11_0, xls_11_1, xls_11_2, xls_11_3, xls_11_4, xls_11_5, xls_11_6, xls_11_7, xls_11_8, nF hM hK, nC hM hK, nl_0 hM hK, nl_1 hM hK, nl_2 hM hK, nl_3 hM hK, nl_4 hM hK, nl_5 hM hK, nl_6 hM hK, nl_7 hM hK, nf_0 hM hK, nf_1 hM hK, nf_2 hM hK, nf_3 hM hK, nf_4 hM hK, nf_5 hM hK, nf_6 hM hK, nf_7 hM hK, xll_9, xlg_9_0, xlg_9_1, xlg_9_2, xlg_9_3, xlg_9_4, xlg_9_5, xlg_9_6, xlg_9_7, xlg_9_8, xlg_9_9, xlg_9_10, xlg_9_11, xlg_9_12, xlg_9_13, not_false_eq_true, Nat.reduceLT, Nat.reduceAdd, true_and, and_true, if_true, if_false, ite_true, ite_false, xnb_0, xnb_1, xnb_b, xk_v, xk_n, z_clip_o hM hK hC h, e_M_fail, s_M_fail_0, s_M_fail_1, s_M_fail_2, s_M_fail_5, s_M_fail_6]
theorem c_T_wouldStay_o (hc : X.1 0 = tgC Kb Ks ep) (hB : kB X Kb b nm s) (hs : s 4 = nI nn) {c : Int32} (h : c < 0 ∨ ¬ c < nI nn) : xcall E xprog (d + 2) 95 [.ref 0, .int c] X Q = Q (.inr 14, xnew X (.inr (14, [])) 6) := by
  have z := fun (Q : xR → Prop) => f_T_needClipper (E := E) (d := d) (Q := Q) hc hB c
  rw [hs] at z
  unfold tgC at hc
  rw [e_T_wouldStay]
  simp only [s_T_wouldStay_0, s_T_wouldStay_1, s_T_wouldStay_2, s_T_wouldStay_5, s_T_wouldStay_6, s_T_wouldStay_9, s_T_wouldStay_10, s_T_wouldStay_13, s_T_wouldStay_16, s_T_wouldStay_17, s_T_wouldStay_20, s_T_wouldStay_21, xc_of hc, not_false_eq_true, Nat.reduceLT, Nat.reduceAdd, true_and, and_true, if_true, if_false, ite_true, ite_false, xnb_0, xnb_1, xnb_b, xk_v, xk_n, z, eq_true h, xk_x (y := m_T_wouldStay) rfl]
theorem c_M_wouldStay_o (hM : kM H K g q) (hK : mK K) (hC : kRc b s g q nn rs re) {c : Int32} (h : c < 0 ∨ ¬ c < nI nn) : xcall E xprog (d + 3) 207 [.ref 63, .int c] (mH H K th sz ea tp nw kp wc sk) Q = Q (.inl (some (.int 0)), mH H K 1 sz ea tp nw kp wc sk) := by
  rw [e_M_wouldStay]
  simp only [s_M_wouldStay_0, s_M_wouldStay_1, s_M_wouldStay_2, s_M_wouldStay_5, s_M_wouldStay_6, s_M_wouldStay_7, s_M_wouldStay_10, s_M_wouldStay_13, s_M_wouldStay_14, s_M_wouldStay_15, s_M_wouldStay_18, s_M_wouldStay_21, s_M_wouldStay_22, s_M_wouldStay_25, s_M_wouldStay_26, s_M_wouldStay_29, s_M_wouldStay_30, s_M_wouldStay_31, s_M_wouldStay_34, mF, mC, ml_64, mf_64, mw_63, mw_64, ml_74, mf_74, mw_74, ml_75, mf_75, mw_75, ml_76, mf_76, mw_76, ml_77, mf_77, mw_77, xll_11, xlg_11_0, xlg_11_1, xlg_11_2, xlg_11_3, xlg_11_4, xlg_11_5, xlg_11_6, xlg_11_7, xlg_11_8, xls_11_0, xls_11_1, xls_11_2, xls_11_3, xls_11_4, xls_11_5, xls_11_6, xls_11_7, xls_11_8, nF hM hK, nC hM hK, nl_0 hM hK, nl_1 hM hK, nl_2 hM hK, nl_3 hM hK, nl_4 hM hK, nl_5 hM hK, nl_6 hM hK, nl_7 hM hK, nf_0 hM hK, nf_1 hM hK, nf_2 hM hK, nf_3 hM hK, nf_4 hM hK, nf_5 hM hK, nf_6 hM hK, nf_7 hM hK, xll_9, xlg_9_0, xlg_9_1, xlg_9_2, xlg_9_3, xlg_9_4, xlg_9_5, xlg_9_6, xlg_9_7, xlg_9_8, xlg_9_9, xlg_9_10, xlg_9_11, xlg_9_12, xlg_9_13, not_false_eq_true, Nat.reduceLT, Nat.reduceAdd, true_and, and_true, if_true, if_false, ite_true, ite_false, xnb_0, xnb_1, xnb_b, xk_v, xk_n, z_clip_o hM hK hC h, e_M_failed, s_M_failed_0, s_M_failed_1, s_M_failed_2, s_M_failed_5, s_M_failed_6]
theorem c_T_steersTo_o (hc : X.1 0 = tgC Kb Ks ep) (hB : kB X Kb b nm s) (hs : s 4 = nI nn) {c : Int32} (h : c < 0 ∨ ¬ c < nI nn) : xcall E xprog (d + 2) 96 [.ref 0, .int c] X Q = Q (.inr 14, xnew X (.inr (14, [])) 6) := by
  have z := fun (Q : xR → Prop) => f_T_needClipper (E := E) (d := d) (Q := Q) hc hB c
  rw [hs] at z
  unfold tgC at hc
  rw [e_T_steersTo]
  simp only [s_T_steersTo_0, s_T_steersTo_1, s_T_steersTo_2, s_T_steersTo_5, s_T_steersTo_6, s_T_steersTo_9, s_T_steersTo_10, s_T_steersTo_13, s_T_steersTo_14, s_T_steersTo_15, s_T_steersTo_18, s_T_steersTo_28, s_T_steersTo_29, s_T_steersTo_30, s_T_steersTo_31, xc_of hc, not_false_eq_true, Nat.reduceLT, Nat.reduceAdd, true_and, and_true, if_true, if_false, ite_true, ite_false, xnb_0, xnb_1, xnb_b, xk_v, xk_n, z, eq_true h, xk_x (y := m_T_steersTo) rfl]
theorem c_M_steersTo_o (hM : kM H K g q) (hK : mK K) (hC : kRc b s g q nn rs re) {c : Int32} (h : c < 0 ∨ ¬ c < nI nn) : xcall E xprog (d + 3) 208 [.ref 63, .int c] (mH H K th sz ea tp nw kp wc sk) Q = Q (.inl (some (.int 0)), mH H K 1 sz ea tp nw kp wc sk) := by
  rw [e_M_steersTo]
  simp only [s_M_steersTo_0, s_M_steersTo_1, s_M_steersTo_2, s_M_steersTo_5, s_M_steersTo_6, s_M_steersTo_7, s_M_steersTo_10, s_M_steersTo_13, s_M_steersTo_14, s_M_steersTo_15, s_M_steersTo_18, s_M_steersTo_19, s_M_steersTo_20, s_M_steersTo_21, s_M_steersTo_24, s_M_steersTo_27, s_M_steersTo_28, s_M_steersTo_29, s_M_steersTo_32, s_M_steersTo_35, s_M_steersTo_36, s_M_steersTo_37, s_M_steersTo_40, s_M_steersTo_41, s_M_steersTo_42, mF, mC, ml_64, mf_64, mw_63, mw_64, ml_74, mf_74, mw_74, ml_75, mf_75, mw_75, ml_76, mf_76, mw_76, ml_77, mf_77, mw_77, xll_11, xlg_11_0, xlg_11_1, xlg_11_2, xlg_11_3, xlg_11_4, xlg_11_5, xlg_11_6, xlg_11_7, xlg_11_8, xls_11_0, xls_11_1, xls_11_2, xls_11_3, xls_11_4, xls_11_5, xls_11_6, xls_11_7, xls_11_8, nF hM hK, nC hM hK, nl_0 hM hK, nl_1 hM hK, nl_2 hM hK, nl_3 hM hK, nl_4 hM hK, nl_5 hM hK, nl_6 hM hK, nl_7 hM hK, nf_0 hM hK, nf_1 hM hK, nf_2 hM hK, nf_3 hM hK, nf_4 hM hK, nf_5 hM hK, nf_6 hM hK, nf_7 hM hK, xll_9, xlg_9_0, xlg_9_1, xlg_9_2, xlg_9_3, xlg_9_4, xlg_9_5, xlg_9_6, xlg_9_7, xlg_9_8, xlg_9_9, xlg_9_10, xlg_9_11, xlg_9_12, xlg_9_13, not_false_eq_true, Nat.reduceLT, Nat.reduceAdd, true_and, and_true, if_true, if_false, ite_true, ite_false, xnb_0, xnb_1, xnb_b, xk_v, xk_n, z_clip_o hM hK hC h, e_M_fail, s_M_fail_0, s_M_fail_1, s_M_fail_2, s_M_fail_5, s_M_fail_6]
theorem c_T_ruleTells_i (hc : X.1 0 = tgC Kb Ks ep) (hB : kB X Kb b nm s) (hY : kY X 43 Kb a t) (hs : s 4 = nI nn) (h6 : nn ≤ 6) {i : Nat} (hi : i < nn) {v : Int32} (hz : ∀ Q, xcall E xprog (d + 4) 9 [.ref 43, .int (nI i)] X Q = Q (.inl (some (.int v)), X1)) : xcall E xprog (d + 5) 94 [.ref 0, .int (nI i)] X Q = Q (.inl (some (.int v)), X1) := by
  have z := fun (Q : xR → Prop) => f_T_needClipper (E := E) (d := d + 3) (Q := Q) hc hB (nI i)
  rw [hs] at z
  have y0 := hY.1
  unfold tgC at hc
  rw [e_T_ruleTells]
  simp only [s_T_ruleTells_0, s_T_ruleTells_1, s_T_ruleTells_2, s_T_ruleTells_5, s_T_ruleTells_6, s_T_ruleTells_9, s_T_ruleTells_10, s_T_ruleTells_13, xc_of hc, xf_of hc, xll_8, xlg_8_0, xlg_8_1, xlg_8_2, xlg_8_3, xlg_8_4, xlg_8_5, xlg_8_6, xc_of y0, not_false_eq_true, Nat.reduceLT, Nat.reduceAdd, true_and, and_true, if_true, if_false, ite_true, ite_false, xnb_0, xnb_1, xnb_b, xk_v, xk_n, z, eq_false (cl_no hi h6), hz]
theorem c_T_wouldStay_i (hc : X.1 0 = tgC Kb Ks ep) (hB : kB X Kb b nm s) (hY : kY X 43 Kb a t) (hs : s 4 = nI nn) (h6 : nn ≤ 6) {i : Nat} (hi : i < nn) {v : Int32} (hz : ∀ Q, xcall E xprog (d + 4) 9 [.ref 43, .int (nI i)] X Q = Q (.inl (some (.int v)), X1)) : xcall E xprog (d + 5) 95 [.ref 0, .int (nI i)] X Q = if v < 0 then Q (.inl (some (.int 1)), X1) else Q (.inl (some (.int 0)), X1) := by
  have z := fun (Q : xR → Prop) => f_T_needClipper (E := E) (d := d + 3) (Q := Q) hc hB (nI i)
  rw [hs] at z
  have y0 := hY.1
  unfold tgC at hc
  rw [e_T_wouldStay]
  simp only [s_T_wouldStay_0, s_T_wouldStay_1, s_T_wouldStay_2, s_T_wouldStay_5, s_T_wouldStay_6, s_T_wouldStay_9, s_T_wouldStay_10, s_T_wouldStay_13, s_T_wouldStay_16, s_T_wouldStay_17, s_T_wouldStay_20, s_T_wouldStay_21, xc_of hc, xf_of hc, xll_8, xlg_8_0, xlg_8_1, xlg_8_2, xlg_8_3, xlg_8_4, xlg_8_5, xlg_8_6, xc_of y0, not_false_eq_true, Nat.reduceLT, Nat.reduceAdd, true_and, and_true, if_true, if_false, ite_true, ite_false, xnb_0, xnb_1, xnb_b, xk_v, xk_n, z, eq_false (cl_no hi h6), hz]
theorem c_T_steersTo_i (hc : X.1 0 = tgC Kb Ks ep) (hB : kB X Kb b nm s) (hY : kY X 43 Kb a t) (hs : s 4 = nI nn) (h6 : nn ≤ 6) {i : Nat} (hi : i < nn) {v : Int32} (hz : ∀ Q, xcall E xprog (d + 4) 9 [.ref 43, .int (nI i)] X Q = Q (.inl (some (.int v)), X1)) : xcall E xprog (d + 5) 96 [.ref 0, .int (nI i)] X Q = if v < 0 then Q (.inr 12, xnew X1 (.inr (12, [])) 6) else Q (.inl (some (.int (v - v / 4 * 4))), X1) := by
  have z := fun (Q : xR → Prop) => f_T_needClipper (E := E) (d := d + 3) (Q := Q) hc hB (nI i)
  rw [hs] at z
  have y0 := hY.1
  unfold tgC at hc
  rw [e_T_steersTo]
  simp only [s_T_steersTo_0, s_T_steersTo_1, s_T_steersTo_2, s_T_steersTo_5, s_T_steersTo_6, s_T_steersTo_9, s_T_steersTo_10, s_T_steersTo_13, s_T_steersTo_14, s_T_steersTo_15, s_T_steersTo_18, s_T_steersTo_28, s_T_steersTo_29, s_T_steersTo_30, s_T_steersTo_31, xc_of hc, xf_of hc, xll_8, xlg_8_0, xlg_8_1, xlg_8_2, xlg_8_3, xlg_8_4, xlg_8_5, xlg_8_6, xc_of y0, not_false_eq_true, Nat.reduceLT, Nat.reduceAdd, true_and, and_true, if_true, if_false, ite_true, ite_false, xnb_0, xnb_1, xnb_b, xk_v, xk_n, z, eq_false (cl_no hi h6), hz, t_T_steersTo_27, show ((4 : Int32) = 0) = False from eq_false (by decide)]
theorem c_M_ruleTells_i (hM : kM H K g q) (hK : mK K) (hT : kTwo b s g q co ro nk nc nn cnt rs re) (hS : kSt a t co ro nk nn n) {c : Nat} (hc : c < nn) (ms f : Nat → Int32) : ∃ f', ∀ Q,
    xcall E xprog (d + 8) 206 [.ref 63, .int (nI c)] (mH H K th sz ea tp (nwO nn a t) kp wc f) Q = Q (.inl (some (.int (tvC a b t s nk rs re c ms sk))), mH H K 0 sz ea tp (nwO nn a t) kp wc f') := by
  obtain ⟨f1, r1⟩ := g_M_rule (E := E) (d := d) (th := 0) (sz := sz) (ea := ea) (tp := tp) (kp := kp) (wc := wc) (sk := sk) hM hK hT hS hc ms f
  obtain ⟨f2, r2⟩ := g_M_rule (E := E) (d := d) (th := 0) (sz := sz) (ea := ea) (tp := tp) (kp := kp) (wc := wc) (sk := sk) hM hK hT hS hc ms f1
  have z := fun (f : Nat → Int32) => z_clip (E := E) (d := d + 5) (th := 0) (sz := sz) (ea := ea) (tp := tp) (nw := nwO nn a t) (kp := kp) (wc := wc) (sk := f) hM hK hT.2.1 (cl_no hc hT.2.1.2.1)
  refine ⟨f1, fun Q => ?_⟩
  rw [e_M_ruleTells]
  simp only [s_M_ruleTells_0, s_M_ruleTells_1, s_M_ruleTells_2, s_M_ruleTells_5, s_M_ruleTells_6, s_M_ruleTells_7, s_M_ruleTells_10, s_M_ruleTells_13, s_M_ruleTells_14, s_M_ruleTells_15, s_M_ruleTells_18, s_M_ruleTells_21, s_M_ruleTells_22, s_M_ruleTells_23, s_M_ruleTells_26, mF, mC, ml_64, mf_64, mw_63, mw_64, ml_74, mf_74, mw_74, ml_75, mf_75, mw_75, ml_76, mf_76, mw_76, ml_77, mf_77, mw_77, xll_11, xlg_11_0, xlg_11_1, xlg_11_2, xlg_11_3, xlg_11_4, xlg_11_5, xlg_11_6, xlg_11_7, xlg_11_8, xls_11_0, xls_11_1, xls_11_2, xls_11_3, xls_11_4, xls_11_5, xls_11_6, xls_11_7, xls_11_8, nF hM hK, nC hM hK, nl_0 hM hK, nl_1 hM hK, nl_2 hM hK, nl_3 hM hK, nl_4 hM hK, nl_5 hM hK, nl_6 hM hK, nl_7 hM hK, nf_0 hM hK, nf_1 hM hK, nf_2 hM hK, nf_3 hM hK, nf_4 hM hK, nf_5 hM hK, nf_6 hM hK, nf_7 hM hK, xll_9, xlg_9_0, xlg_9_1, xlg_9_2, xlg_9_3, xlg_9_4, xlg_9_5, xlg_9_6, xlg_9_7, xlg_9_8, xlg_9_9, xlg_9_10, xlg_9_11, xlg_9_12, xlg_9_13, not_false_eq_true, Nat.reduceLT, Nat.reduceAdd, true_and, and_true, if_true, if_false, ite_true, ite_false, xnb_0, xnb_1, xnb_b, xk_v, xk_n, z, ne_1, r1]
theorem c_M_wouldStay_i (hM : kM H K g q) (hK : mK K) (hT : kTwo b s g q co ro nk nc nn cnt rs re) (hS : kSt a t co ro nk nn n) {c : Nat} (hc : c < nn) (ms f : Nat → Int32) : ∃ f', ∀ Q,
    xcall E xprog (d + 8) 207 [.ref 63, .int (nI c)] (mH H K th sz ea tp (nwO nn a t) kp wc f) Q = if tvC a b t s nk rs re c ms sk < 0 then Q (.inl (some (.int 1)), mH H K 0 sz ea tp (nwO nn a t) kp wc f') else Q (.inl (some (.int 0)), mH H K 0 sz ea tp (nwO nn a t) kp wc f') := by
  obtain ⟨f1, r1⟩ := g_M_rule (E := E) (d := d) (th := 0) (sz := sz) (ea := ea) (tp := tp) (kp := kp) (wc := wc) (sk := sk) hM hK hT hS hc ms f
  obtain ⟨f2, r2⟩ := g_M_rule (E := E) (d := d) (th := 0) (sz := sz) (ea := ea) (tp := tp) (kp := kp) (wc := wc) (sk := sk) hM hK hT hS hc ms f1
  have z := fun (f : Nat → Int32) => z_clip (E := E) (d := d + 5) (th := 0) (sz := sz) (ea := ea) (tp := tp) (nw := nwO nn a t) (kp := kp) (wc := wc) (sk := f) hM hK hT.2.1 (cl_no hc hT.2.1.2.1)
  refine ⟨f1, fun Q => ?_⟩
  rw [e_M_wouldStay]
  simp only [s_M_wouldStay_0, s_M_wouldStay_1, s_M_wouldStay_2, s_M_wouldStay_5, s_M_wouldStay_6, s_M_wouldStay_7, s_M_wouldStay_10, s_M_wouldStay_13, s_M_wouldStay_14, s_M_wouldStay_15, s_M_wouldStay_18, s_M_wouldStay_21, s_M_wouldStay_22, s_M_wouldStay_25, s_M_wouldStay_26, s_M_wouldStay_29, s_M_wouldStay_30, s_M_wouldStay_31, s_M_wouldStay_34, mF, mC, ml_64, mf_64, mw_63, mw_64, ml_74, mf_74, mw_74, ml_75, mf_75, mw_75, ml_76, mf_76, mw_76, ml_77, mf_77, mw_77, xll_11, xlg_11_0, xlg_11_1, xlg_11_2, xlg_11_3, xlg_11_4, xlg_11_5, xlg_11_6, xlg_11_7, xlg_11_8, xls_11_0, xls_11_1, xls_11_2, xls_11_3, xls_11_4, xls_11_5, xls_11_6, xls_11_7, xls_11_8, nF hM hK, nC hM hK, nl_0 hM hK, nl_1 hM hK, nl_2 hM hK, nl_3 hM hK, nl_4 hM hK, nl_5 hM hK, nl_6 hM hK, nl_7 hM hK, nf_0 hM hK, nf_1 hM hK, nf_2 hM hK, nf_3 hM hK, nf_4 hM hK, nf_5 hM hK, nf_6 hM hK, nf_7 hM hK, xll_9, xlg_9_0, xlg_9_1, xlg_9_2, xlg_9_3, xlg_9_4, xlg_9_5, xlg_9_6, xlg_9_7, xlg_9_8, xlg_9_9, xlg_9_10, xlg_9_11, xlg_9_12, xlg_9_13, not_false_eq_true, Nat.reduceLT, Nat.reduceAdd, true_and, and_true, if_true, if_false, ite_true, ite_false, xnb_0, xnb_1, xnb_b, xk_v, xk_n, z, ne_1, r1]
theorem c_M_steersTo_i (hM : kM H K g q) (hK : mK K) (hT : kTwo b s g q co ro nk nc nn cnt rs re) (hS : kSt a t co ro nk nn n) {c : Nat} (hc : c < nn) (ms f : Nat → Int32) : ∃ f1 f2, ∀ Q,
    xcall E xprog (d + 8) 208 [.ref 63, .int (nI c)] (mH H K th sz ea tp (nwO nn a t) kp wc f) Q = if tvC a b t s nk rs re c ms sk < 0 then Q (.inl (some (.int 0)), mH H K 2 sz ea tp (nwO nn a t) kp wc f1) else Q (.inl (some (.int (tvC a b t s nk rs re c ms sk - tvC a b t s nk rs re c ms sk / 4 * 4))), mH H K 0 sz ea tp (nwO nn a t) kp wc f2) := by
  obtain ⟨f1, r1⟩ := g_M_rule (E := E) (d := d) (th := 0) (sz := sz) (ea := ea) (tp := tp) (kp := kp) (wc := wc) (sk := sk) hM hK hT hS hc ms f
  obtain ⟨f2, r2⟩ := g_M_rule (E := E) (d := d) (th := 0) (sz := sz) (ea := ea) (tp := tp) (kp := kp) (wc := wc) (sk := sk) hM hK hT hS hc ms f1
  have z := fun (f : Nat → Int32) => z_clip (E := E) (d := d + 5) (th := 0) (sz := sz) (ea := ea) (tp := tp) (nw := nwO nn a t) (kp := kp) (wc := wc) (sk := f) hM hK hT.2.1 (cl_no hc hT.2.1.2.1)
  refine ⟨f1, f2, fun Q => ?_⟩
  rw [e_M_steersTo]
  simp only [s_M_steersTo_0, s_M_steersTo_1, s_M_steersTo_2, s_M_steersTo_5, s_M_steersTo_6, s_M_steersTo_7, s_M_steersTo_10, s_M_steersTo_13, s_M_steersTo_14, s_M_steersTo_15, s_M_steersTo_18, s_M_steersTo_19, s_M_steersTo_20, s_M_steersTo_21, s_M_steersTo_24, s_M_steersTo_27, s_M_steersTo_28, s_M_steersTo_29, s_M_steersTo_32, s_M_steersTo_35, s_M_steersTo_36, s_M_steersTo_37, s_M_steersTo_40, s_M_steersTo_41, s_M_steersTo_42, mF, mC, ml_64, mf_64, mw_63, mw_64, ml_74, mf_74, mw_74, ml_75, mf_75, mw_75, ml_76, mf_76, mw_76, ml_77, mf_77, mw_77, xll_11, xlg_11_0, xlg_11_1, xlg_11_2, xlg_11_3, xlg_11_4, xlg_11_5, xlg_11_6, xlg_11_7, xlg_11_8, xls_11_0, xls_11_1, xls_11_2, xls_11_3, xls_11_4, xls_11_5, xls_11_6, xls_11_7, xls_11_8, nF hM hK, nC hM hK, nl_0 hM hK, nl_1 hM hK, nl_2 hM hK, nl_3 hM hK, nl_4 hM hK, nl_5 hM hK, nl_6 hM hK, nl_7 hM hK, nf_0 hM hK, nf_1 hM hK, nf_2 hM hK, nf_3 hM hK, nf_4 hM hK, nf_5 hM hK, nf_6 hM hK, nf_7 hM hK, xll_9, xlg_9_0, xlg_9_1, xlg_9_2, xlg_9_3, xlg_9_4, xlg_9_5, xlg_9_6, xlg_9_7, xlg_9_8, xlg_9_9, xlg_9_10, xlg_9_11, xlg_9_12, xlg_9_13, not_false_eq_true, Nat.reduceLT, Nat.reduceAdd, true_and, and_true, if_true, if_false, ite_true, ite_false, xnb_0, xnb_1, xnb_b, xk_v, xk_n, z, ne_1, r1, r2, e_M_fail, s_M_fail_0, s_M_fail_1, s_M_fail_2, s_M_fail_5, s_M_fail_6, show ((4 : Int32) = 0) = False from eq_false (by decide)]
theorem st_ruleTells (hI : IV n X) (p : Int32) : stP E (d + 8) 247 [.ref 0, .int p, .ref 78] 206 [.ref 63, .int p] n wI X := by
  obtain ⟨Kb, Ks, K, l, ep, th, T, tp, b, nm, s, a, t, g, q, co, ro, nk, nc, nn, cnt, rs, re, hD⟩ := hI
  obtain ⟨hc, hKK, _, hB, _, hY, ⟨ms, sk, hh, hTT⟩, _⟩ := id hD.1
  have h2 := hD.2.2.2.2.1
  have hS := hD.2.2.2.2.2
  have hW := h2.2.2.1
  have hs : s 4 = nI nn := hW.2.2.2.2.1
  have h6 : nn ≤ 6 := hW.2.2.2.2.2.1
  have x0 := x0_of hc
  by_cases h : p < 0 ∨ ¬ p < nI nn
  · exact st_thr0 (c := .inr (14, [])) hD (k := 1) (by decide) (fun Q => x_ruleTells_14 p x0 (fun Q => c_T_ruleTells_o (d := d + 5) hc hB hs h)) (fun H kp wc sk hM hK => ⟨kp, wc, sk, fun Q => c_M_ruleTells_o (d := d + 5) hM hK h2.2.1 h⟩) (Nat.le_refl n)
  · obtain ⟨i, hi, rfl⟩ := cl_ex h6 h
    obtain ⟨ms', sk', h', hz⟩ := g_Bay_tell (E := E) (d := d + 2) hB (by omega) hY hTT hW hi
    have hC : ivC (sH X 43 Kb a t ms' sk' h') Kb Ks l ep tp b nm s a t := ivC_sH hD.1
    have he : ∀ m, 63 ≤ m → m < X.2.1 → (sH X 43 Kb a t ms' sk' h').1 m = X.1 m := fun m h1 _ => sH_o (by omega) m (by omega)
    exact st_ok hD hC he rfl (fun f hf Q => w_ruleTells (nI i) x0 (fun Q => c_T_ruleTells_i (d := d + 2) hc hB hY hs h6 hi hz) hf) (fun H kp wc f hM hK => by
      obtain ⟨f', r⟩ := c_M_ruleTells_i (E := E) (d := d) (th := th) (sz := nI l) (ea := ep) (tp := tp) (kp := kp) (wc := wc) (sk := sk) hM hK h2 hS hi ms f
      exact ⟨kp, wc, f', r⟩) hS rfl
theorem st_wouldStay (hI : IV n X) (p : Int32) : stP E (d + 8) 248 [.ref 0, .int p, .ref 78] 207 [.ref 63, .int p] n wB X := by
  obtain ⟨Kb, Ks, K, l, ep, th, T, tp, b, nm, s, a, t, g, q, co, ro, nk, nc, nn, cnt, rs, re, hD⟩ := hI
  obtain ⟨hc, hKK, _, hB, _, hY, ⟨ms, sk, hh, hTT⟩, _⟩ := id hD.1
  have h2 := hD.2.2.2.2.1
  have hS := hD.2.2.2.2.2
  have hW := h2.2.2.1
  have hs : s 4 = nI nn := hW.2.2.2.2.1
  have h6 : nn ≤ 6 := hW.2.2.2.2.2.1
  have x0 := x0_of hc
  by_cases h : p < 0 ∨ ¬ p < nI nn
  · exact st_thr0 (c := .inr (14, [])) hD (k := 1) (by decide) (fun Q => x_wouldStay_14 p x0 (fun Q => c_T_wouldStay_o (d := d + 5) hc hB hs h)) (fun H kp wc sk hM hK => ⟨kp, wc, sk, fun Q => c_M_wouldStay_o (d := d + 5) hM hK h2.2.1 h⟩) (Nat.le_refl n)
  · obtain ⟨i, hi, rfl⟩ := cl_ex h6 h
    obtain ⟨ms', sk', h', hz⟩ := g_Bay_tell (E := E) (d := d + 2) hB (by omega) hY hTT hW hi
    have hC : ivC (sH X 43 Kb a t ms' sk' h') Kb Ks l ep tp b nm s a t := ivC_sH hD.1
    have he : ∀ m, 63 ≤ m → m < X.2.1 → (sH X 43 Kb a t ms' sk' h').1 m = X.1 m := fun m h1 _ => sH_o (by omega) m (by omega)
    have zT := fun (Q : xR → Prop) => c_T_wouldStay_i (d := d + 2) (Q := Q) hc hB hY hs h6 hi hz
    have zM : ∀ (H : xH) (kp wc f : Nat → Int32), kM H K g q → mK K → ∃ f', ∀ Q, _ := fun H kp wc f hM hK => c_M_wouldStay_i (E := E) (d := d) (th := th) (sz := nI l) (ea := ep) (tp := tp) (kp := kp) (wc := wc) (sk := sk) hM hK h2 hS hi ms f
    by_cases w : tvC a b t s nk rs re i ms sk < 0
    · simp only [if_pos w] at zT zM
      exact st_ok (v := 1) (o := 1) hD hC he rfl (fun f hf Q => w_wouldStay_1 (nI i) x0 zT hf) (fun H kp wc f hM hK => by
        obtain ⟨f', r⟩ := zM H kp wc f hM hK
        exact ⟨kp, wc, f', r⟩) hS (Or.inl ⟨rfl, rfl⟩)
    · simp only [if_neg w] at zT zM
      exact st_ok (v := 0) (o := 0) hD hC he rfl (fun f hf Q => w_wouldStay_0 (nI i) x0 zT hf) (fun H kp wc f hM hK => by
        obtain ⟨f', r⟩ := zM H kp wc f hM hK
        exact ⟨kp, wc, f', r⟩) hS (Or.inr ⟨rfl, rfl⟩)
theorem st_steersTo (hI : IV n X) (p : Int32) : stP E (d + 8) 249 [.ref 0, .int p, .ref 78] 208 [.ref 63, .int p] n wI X := by
  obtain ⟨Kb, Ks, K, l, ep, th, T, tp, b, nm, s, a, t, g, q, co, ro, nk, nc, nn, cnt, rs, re, hD⟩ := hI
  obtain ⟨hc, hKK, _, hB, _, hY, ⟨ms, sk, hh, hTT⟩, _⟩ := id hD.1
  have h2 := hD.2.2.2.2.1
  have hS := hD.2.2.2.2.2
  have hW := h2.2.2.1
  have hs : s 4 = nI nn := hW.2.2.2.2.1
  have h6 : nn ≤ 6 := hW.2.2.2.2.2.1
  have x0 := x0_of hc
  by_cases h : p < 0 ∨ ¬ p < nI nn
  · exact st_thr0 (c := .inr (14, [])) hD (k := 1) (by decide) (fun Q => x_steersTo_14 p x0 (fun Q => c_T_steersTo_o (d := d + 5) hc hB hs h)) (fun H kp wc sk hM hK => ⟨kp, wc, sk, fun Q => c_M_steersTo_o (d := d + 5) hM hK h2.2.1 h⟩) (Nat.le_refl n)
  · obtain ⟨i, hi, rfl⟩ := cl_ex h6 h
    obtain ⟨ms', sk', h', hz⟩ := g_Bay_tell (E := E) (d := d + 2) hB (by omega) hY hTT hW hi
    have hC : ivC (sH X 43 Kb a t ms' sk' h') Kb Ks l ep tp b nm s a t := ivC_sH hD.1
    have he : ∀ m, 63 ≤ m → m < X.2.1 → (sH X 43 Kb a t ms' sk' h').1 m = X.1 m := fun m h1 _ => sH_o (by omega) m (by omega)
    have zT := fun (Q : xR → Prop) => c_T_steersTo_i (d := d + 2) (Q := Q) hc hB hY hs h6 hi hz
    have zM : ∀ (H : xH) (kp wc f : Nat → Int32), kM H K g q → mK K → ∃ f1 f2, ∀ Q, _ := fun H kp wc f hM hK => c_M_steersTo_i (E := E) (d := d) (th := th) (sz := nI l) (ea := ep) (tp := tp) (kp := kp) (wc := wc) (sk := sk) hM hK h2 hS hi ms f
    by_cases w : tvC a b t s nk rs re i ms sk < 0
    · simp only [if_pos w] at zT zM
      exact st_thr (k := 2) hD (ivC_nw hC (show 62 < X.2.1 by have := hD.2.1.2.2.2.2.1; omega)) (fun m h1 h2 => by rw [xnew_g, if_neg (show ¬ m = (sH X 43 Kb a t ms' sk' h').2.1 from by show ¬ m = X.2.1; omega)]; exact he m h1 h2) rfl (by decide) (fun Q => x_steersTo_12 (nI i) x0 zT) (fun H kp wc f hM hK => by
        obtain ⟨f1, f2, r⟩ := zM H kp wc f hM hK
        exact ⟨kp, wc, f1, r⟩) (Nat.le_refl n)
    · simp only [if_neg w] at zT zM
      exact st_ok hD hC he rfl (fun f hf Q => w_steersTo (nI i) x0 zT hf) (fun H kp wc f hM hK => by
        obtain ⟨f1, f2, r⟩ := zM H kp wc f hM hK
        exact ⟨kp, wc, f2, r⟩) hS rfl
end RULES
