/-! ===== the mean of the points ===== -/
section MEAN
variable {E : xE} {d D n n' Ln Mn : Nat} {Q : xR → Prop} {X X1 H : xH} {Kb Ks Kt K l : Nat} {ep th k v : Int32} {La Ma : List Value} {T : Nat → Nat} {tp : Nat → Int32} {b : Nat → Nat → Int32} {nm : Nat → Int64} {s : Nat → Int32} {a a' : Nat → Nat → Int32} {t t' : Nat → Int32} {g : Nat → Nat → Int32} {q : Nat → Int32} {co ro nk nc nn cnt : Nat} {rs re : Nat → Nat} {nw kp wc sk ms : Nat → Int32} {sz ea h : Int32} {W : Int32 → Int64 → Prop}
theorem mn_ok {v c : Int32} (hc : ¬ c = 0) : vf_n64 (FP.ddiv (FP.i2d v) (FP.i2d c)) := by
  have h : Jvm.FP.Core.dIsNaN (Jvm.FP.Core.ddiv (Jvm.FP.Core.i2d v) (Jvm.FP.Core.i2d c)) = false := Jvm.FP.Core.ddiv_out (Jvm.FP.Core.i2d_fin v).notNaN (Jvm.FP.Core.i2d_fin c) (fun z => Jvm.FP.Core.i2d_ne_zero hc ((Jvm.FP.Core.zero_bits2 _).mp z))
  have h2 : ¬ 9218868437227405312 < (Jvm.FP.Core.ddiv (Jvm.FP.Core.i2d v) (Jvm.FP.Core.i2d c)).toNat % 2 ^ 63 := fun z => by
    have := (Jvm.FP.Core.isNaN_bits _).mpr z
    rw [h] at this
    exact absurd this (by decide)
  show (Jvm.FP.Core.ddiv (Jvm.FP.Core.i2d v) (Jvm.FP.Core.i2d c)) &&& 0x7fffffffffffffff ≤ 0x7ff0000000000000
  rw [UInt64.le_iff_toNat_le, Jvm.FP.Core.mask_toNat]
  exact Nat.le_of_not_lt h2
theorem nI_nz (h0 : 0 < nn) (h6 : nn ≤ 6) : ¬ nI nn = 0 := fun e => absurd (nI_inj (x := nn) (y := 0) (by omega) (by omega) e) (by omega)
theorem l_T_mean (hc : X.1 0 = tgC Kb Ks ep) (hY : kY X 43 Kb a t) (h6 : nn ≤ 6) (h0 : 0 < nn) : ∀ m i z, i + m = nn →
    xr E d m_T_meanPoints Q (19, [some (.ref 0), some (.int (nI nn)), some (.int z), some (.int (nI i))], [], X) = Q (.inl (some (.double (FP.ddiv (FP.i2d (sumP (a 7) i m z)) (FP.i2d (nI nn))))), X) := by
  unfold tgC at hc
  obtain ⟨y0, y1, y2, y3, y4, y5, y6, y7, y8, y9⟩ := id hY
  intro m
  induction m with
  | zero =>
    intro i z hi
    rw [s_T_meanPoints_19]
    simp only [s_T_meanPoints_20, s_T_meanPoints_21, s_T_meanPoints_24, s_T_meanPoints_25, s_T_meanPoints_26, s_T_meanPoints_29, s_T_meanPoints_32, s_T_meanPoints_33, s_T_meanPoints_34, s_T_meanPoints_35, s_T_meanPoints_36, s_T_meanPoints_39, s_T_meanPoints_42, s_T_meanPoints_43, s_T_meanPoints_44, s_T_meanPoints_45, s_T_meanPoints_46, s_T_meanPoints_47, not_false_eq_true, Nat.reduceLT, Nat.reduceAdd, true_and, and_true, if_true, if_false, ite_true, ite_false, xnb_0, xnb_1, xnb_b, xk_v, xk_n, nge (show nn ≤ i by omega) (by omega), eq_true (mn_ok (v := z) (nI_nz h0 h6)), sumP]
  | succ m ih =>
    intro i z hi
    rw [s_T_meanPoints_19]
    simp only [s_T_meanPoints_20, s_T_meanPoints_21, s_T_meanPoints_24, s_T_meanPoints_25, s_T_meanPoints_26, s_T_meanPoints_29, s_T_meanPoints_32, s_T_meanPoints_33, s_T_meanPoints_34, s_T_meanPoints_35, s_T_meanPoints_36, s_T_meanPoints_39, s_T_meanPoints_42, s_T_meanPoints_43, s_T_meanPoints_44, s_T_meanPoints_45, s_T_meanPoints_46, s_T_meanPoints_47, not_false_eq_true, Nat.reduceLT, Nat.reduceAdd, true_and, and_true, if_true, if_false, ite_true, ite_false, xnb_0, xnb_1, xnb_b, xk_v, xk_n, nlt (show i < nn by omega) (by omega), xf_of hc, xll_8, xlg_8_0, xlg_8_1, xlg_8_2, xlg_8_3, xlg_8_4, xlg_8_5, xlg_8_6, xf_of y0, xc_of y0, xIl_of y1, xIf_of y1, xIl_of y2, xIf_of y2, xIl_of y3, xIf_of y3, xIl_of y4, xIf_of y4, xIl_of y5, xIf_of y5, xIl_of y6, xIf_of y6, xIl_of y7, xIf_of y7, xIl_of y8, xIf_of y8, xIl_of y9, xIf_of y9, xll_0, xlg_0_0, xlg_0_1, xlg_0_2, xlg_0_3, xlg_0_4, xlg_0_5, xlg_0_6, xlg_0_7, xlg_0_8, xlg_0_9, xlg_0_10, xlg_0_11, xlg_0_12, xlg_0_13, nvp (show i < 6 by omega) (by omega), ncl (show i < 2147483648 by omega), nI_1, ih (i + 1) _ (by omega), sumP]
def mnV (a : Nat → Nat → Int32) (nn : Nat) : UInt64 := if nn = 0 then FP.dconst0 else FP.ddiv (FP.i2d (sumP (a 7) 0 nn 0)) (FP.i2d (nI nn))
theorem c_T_mean (hc : X.1 0 = tgC Kb Ks ep) (hB : kB X Kb b nm s) (hY : kY X 43 Kb a t) (hs : s 4 = nI nn) (h6 : nn ≤ 6) : xcall E xprog (d + 1) 105 [.ref 0] X Q = Q (.inl (some (.double (mnV a nn))), X) := by
  have b0 := hB.1
  by_cases p : nn = 0
  · subst p
    unfold tgC at hc
    rw [e_T_meanPoints]
    simp only [s_T_meanPoints_0, s_T_meanPoints_1, s_T_meanPoints_4, s_T_meanPoints_7, s_T_meanPoints_8, s_T_meanPoints_9, s_T_meanPoints_10, s_T_meanPoints_13, s_T_meanPoints_14, xf_of hc, xll_8, xlg_8_0, xlg_8_1, xlg_8_2, xlg_8_3, xlg_8_4, xlg_8_5, xlg_8_6, xf_of b0, xll_1, xlg_1_0, xlg_1_1, xlg_1_2, xlg_1_3, xlg_1_4, xlg_1_5, xlg_1_6, xlg_1_7, xlg_1_8, xlg_1_9, xlg_1_10, xlg_1_11, xlg_1_12, xlg_1_13, xlg_1_14, xlg_1_15, xlg_1_16, hs, not_false_eq_true, Nat.reduceLT, Nat.reduceAdd, true_and, and_true, if_true, if_false, ite_true, ite_false, xnb_0, xnb_1, xnb_b, xk_v, xk_n, show (nI 0 < 1) = True from eq_true (by decide), mnV]
  · have z := fun (Q : xR → Prop) => l_T_mean (E := E) (d := d) (Q := Q) hc hY h6 (Nat.pos_of_ne_zero p) nn 0 0 (by omega)
    rw [show nI 0 = (0 : Int32) from rfl] at z
    unfold tgC at hc
    rw [e_T_meanPoints]
    simp only [s_T_meanPoints_0, s_T_meanPoints_1, s_T_meanPoints_4, s_T_meanPoints_7, s_T_meanPoints_8, s_T_meanPoints_9, s_T_meanPoints_10, s_T_meanPoints_13, s_T_meanPoints_14, s_T_meanPoints_15, s_T_meanPoints_16, s_T_meanPoints_17, s_T_meanPoints_18, xf_of hc, xll_8, xlg_8_0, xlg_8_1, xlg_8_2, xlg_8_3, xlg_8_4, xlg_8_5, xlg_8_6, xf_of b0, xll_1, xlg_1_0, xlg_1_1, xlg_1_2, xlg_1_3, xlg_1_4, xlg_1_5, xlg_1_6, xlg_1_7, xlg_1_8, xlg_1_9, xlg_1_10, xlg_1_11, xlg_1_12, xlg_1_13, xlg_1_14, xlg_1_15, xlg_1_16, hs, not_false_eq_true, Nat.reduceLT, Nat.reduceAdd, true_and, and_true, if_true, if_false, ite_true, ite_false, xnb_0, xnb_1, xnb_b, xk_v, xk_n, show (nI nn < 1) = False from eq_false (by rw [nI_l1 nn (by omega)]; omega), z, mnV, if_neg p]
theorem c_M_mean (hM : kM H K g q) (hK : mK K) (hq : q 4 = nI nn) (h6 : nn ≤ 6) : xcall E xprog (d + 3) 217 [.ref 63] (mH H K th sz ea tp (nwO nn a t) kp wc sk) Q = Q (.inl (some (.double (mnV a nn))), mH H K 0 sz ea tp (nwO nn a t) kp wc sk) := by
  rw [e_M_meanPoints]
  by_cases p : nn = 0
  · subst p
    simp only [s_M_meanPoints_0, s_M_meanPoints_1, s_M_meanPoints_2, s_M_meanPoints_5, s_M_meanPoints_6, s_M_meanPoints_9, s_M_meanPoints_12, s_M_meanPoints_15, s_M_meanPoints_16, s_M_meanPoints_19, s_M_meanPoints_20, s_M_meanPoints_23, s_M_meanPoints_24, s_M_meanPoints_25, s_M_meanPoints_28, s_M_meanPoints_31, s_M_meanPoints_32, s_M_meanPoints_33, mF, mC, ml_64, mf_64, mw_63, mw_64, ml_74, mf_74, mw_74, ml_75, mf_75, mw_75, ml_76, mf_76, mw_76, ml_77, mf_77, mw_77, xll_11, xlg_11_0, xlg_11_1, xlg_11_2, xlg_11_3, xlg_11_4, xlg_11_5, xlg_11_6, xlg_11_7, xlg_11_8, xls_11_0, xls_11_1, xls_11_2, xls_11_3, xls_11_4, xls_11_5, xls_11_6, xls_11_7, xls_11_8, nF hM hK, nC hM hK, nl_0 hM hK, nl_1 hM hK, nl_2 hM hK, nl_3 hM hK, nl_4 hM hK, nl_5 hM hK, nl_6 hM hK, nl_7 hM hK, nf_0 hM hK, nf_1 hM hK, nf_2 hM hK, nf_3 hM hK, nf_4 hM hK, nf_5 hM hK, nf_6 hM hK, nf_7 hM hK, xll_9, xlg_9_0, xlg_9_1, xlg_9_2, xlg_9_3, xlg_9_4, xlg_9_5, xlg_9_6, xlg_9_7, xlg_9_8, xlg_9_9, xlg_9_10, xlg_9_11, xlg_9_12, xlg_9_13, not_false_eq_true, Nat.reduceLT, Nat.reduceAdd, true_and, and_true, if_true, if_false, ite_true, ite_false, xnb_0, xnb_1, xnb_b, xk_v, xk_n, hq, show (nI 0 = 0) = True from eq_true rfl, mnV]
  · have z := nI_nz (Nat.pos_of_ne_zero p) h6
    simp only [s_M_meanPoints_0, s_M_meanPoints_1, s_M_meanPoints_2, s_M_meanPoints_5, s_M_meanPoints_6, s_M_meanPoints_9, s_M_meanPoints_12, s_M_meanPoints_15, s_M_meanPoints_16, s_M_meanPoints_19, s_M_meanPoints_20, s_M_meanPoints_23, s_M_meanPoints_24, s_M_meanPoints_25, s_M_meanPoints_28, s_M_meanPoints_31, s_M_meanPoints_32, s_M_meanPoints_33, mF, mC, ml_64, mf_64, mw_63, mw_64, ml_74, mf_74, mw_74, ml_75, mf_75, mw_75, ml_76, mf_76, mw_76, ml_77, mf_77, mw_77, xll_11, xlg_11_0, xlg_11_1, xlg_11_2, xlg_11_3, xlg_11_4, xlg_11_5, xlg_11_6, xlg_11_7, xlg_11_8, xls_11_0, xls_11_1, xls_11_2, xls_11_3, xls_11_4, xls_11_5, xls_11_6, xls_11_7, xls_11_8, nF hM hK, nC hM hK, nl_0 hM hK, nl_1 hM hK, nl_2 hM hK, nl_3 hM hK, nl_4 hM hK, nl_5 hM hK, nl_6 hM hK, nl_7 hM hK, nf_0 hM hK, nf_1 hM hK, nf_2 hM hK, nf_3 hM hK, nf_4 hM hK, nf_5 hM hK, nf_6 hM hK, nf_7 hM hK, xll_9, xlg_9_0, xlg_9_1, xlg_9_2, xlg_9_3, xlg_9_4, xlg_9_5, xlg_9_6, xlg_9_7, xlg_9_8, xlg_9_9, xlg_9_10, xlg_9_11, xlg_9_12, xlg_9_13, not_false_eq_true, Nat.reduceLT, Nat.reduceAdd, true_and, and_true, if_true, if_false, ite_true, ite_false, xnb_0, xnb_1, xnb_b, xk_v, xk_n, hq, eq_false z, f_M_allPoints hM hK hq h6, eq_true (mn_ok (v := sumP (a 7) 0 nn 0) z), mnV, if_neg p]
theorem st_meanPoints (hI : IV n X) : ∃ (v : UInt64) (X2 : xH), (∀ Q, xcall E xprog (d + 3) 105 [.ref 0] X Q = Q (.inl (some (.double v)), X)) ∧ (∀ Q, xcall E xprog (d + 3) 217 [.ref 63] X Q = Q (.inl (some (.double v)), X2)) ∧ IVk n 0 X2 ∧ X2.2 = X.2 := by
  obtain ⟨Kb, Ks, K, l, ep, th, T, tp, b, nm, s, a, t, g, q, co, ro, nk, nc, nn, cnt, rs, re, hD⟩ := hI
  obtain ⟨hc, hKK, _, hB, _, hY, ⟨ms, sk, hh, hTT⟩, _⟩ := id hD.1
  have h2 := hD.2.2.2.2.1
  have hS := hD.2.2.2.2.2
  have hW := h2.2.2.1
  have hR : kRk b s g q nk := h2.1
  have hs : s 4 = nI nn := hW.2.2.2.2.1
  have hk : s 2 = nI nk := hW.1
  have h6 : nn ≤ 6 := hW.2.2.2.2.2.1
  have k6 : nk ≤ 6 := hW.2.1
  have x0 := x0_of hc
  have hX := sH_of hY hTT
  have hq : q 4 = nI nn := h2.2.1.1
  obtain ⟨kp, wc, msk, m1, m2⟩ := ivD_th hD
  refine ⟨mnV a nn, _, fun Q => c_T_mean (d := d + 2) hc hB hY hs h6, fun Q => ?_, ⟨Kb, Ks, K, l, ep, T, tp, b, nm, s, a, t, g, q, co, ro, nk, nc, nn, cnt, rs, re, m2 0 kp wc msk⟩, rfl⟩
  exact (congrArg (fun Z => xcall E xprog (d + 3) 217 [.ref 63] Z Q) m1).trans (c_M_mean hD.2.1.2.1 hD.2.1.2.2.1 hq h6)
end MEAN
