/-! ===== the model: a clipper's hour, hours ===== -/
section MGO
variable {E : xE} {d : Nat} {Q : xR → Prop} {H : xH} {K : Nat} {g : Nat → Nat → Int32} {q : Nat → Int32} {th sz ea : Int32} {tp nw kp wc sk : Nat → Int32} {b a : Nat → Nat → Int32} {s t : Nat → Int32} {co ro nk nc nn cnt n : Nat} {rs re : Nat → Nat}
theorem cell_eq {x y u v : Nat} (hx : x < co) (hu : u < co) (hc : co ≤ 12) (hy : y < 12) (hv : v < 12) : (nI (co * y + x) = nI (co * v + u)) = (nI x = nI u ∧ nI y = nI v) := by
  refine propext ⟨fun e => ?_, fun e => ?_⟩
  · have h1 := nI_cell (y := y) hx hc hy
    have h2 := nI_cell (y := v) hu hc hv
    rw [e] at h1
    exact ⟨h1.2.symm.trans h2.2, h1.1.symm.trans h2.1⟩
  · rw [← nI_ad, ← nI_ad, ← nI_mu, ← nI_mu, e.1, e.2]
theorem l_MB_kettle (hM : kM H K g q) (hK : mK K) (hq : q 2 = nI nk) (hk : nk ≤ 6) (z : Int32) (kc kr : Nat → Int32) (x y : Int32) (hz : ∀ k, k < nk → (g 0 k = z) = (kc k = x ∧ kr k = y)) : ∀ m i, i + m = nk →
    xr E d m_MB_kettle Q (2, [some (.ref K), some (.int z), some (.int (nI i))], [], (mH H K th sz ea tp nw kp wc sk)) = Q (.inl (some (.int (kAt kc kr x y i m))), (mH H K th sz ea tp nw kp wc sk)) := by
  intro m
  induction m with
  | zero =>
    intro i hi
    rw [s_MB_kettle_2]
    simp only [s_MB_kettle_0, s_MB_kettle_1, s_MB_kettle_3, s_MB_kettle_4, s_MB_kettle_7, s_MB_kettle_10, s_MB_kettle_11, s_MB_kettle_14, s_MB_kettle_15, s_MB_kettle_16, s_MB_kettle_17, s_MB_kettle_20, s_MB_kettle_21, s_MB_kettle_22, s_MB_kettle_25, s_MB_kettle_28, s_MB_kettle_29, mF, mC, ml_64, mf_64, mw_63, mw_64, ml_74, mf_74, mw_74, ml_75, mf_75, mw_75, ml_76, mf_76, mw_76, ml_77, mf_77, mw_77, xll_11, xlg_11_0, xlg_11_1, xlg_11_2, xlg_11_3, xlg_11_4, xlg_11_5, xlg_11_6, xlg_11_7, xlg_11_8, xls_11_0, xls_11_1, xls_11_2, xls_11_3, xls_11_4, xls_11_5, xls_11_6, xls_11_7, xls_11_8, nF hM hK, nC hM hK, nl_0 hM hK, nl_1 hM hK, nl_2 hM hK, nl_3 hM hK, nl_4 hM hK, nl_5 hM hK, nl_6 hM hK, nl_7 hM hK, nf_0 hM hK, nf_1 hM hK, nf_2 hM hK, nf_3 hM hK, nf_4 hM hK, nf_5 hM hK, nf_6 hM hK, nf_7 hM hK, xll_9, xlg_9_0, xlg_9_1, xlg_9_2, xlg_9_3, xlg_9_4, xlg_9_5, xlg_9_6, xlg_9_7, xlg_9_8, xlg_9_9, xlg_9_10, xlg_9_11, xlg_9_12, xlg_9_13, not_false_eq_true, Nat.reduceLT, Nat.reduceAdd, true_and, and_true, if_true, if_false, ite_true, ite_false, xnb_0, xnb_1, xnb_b, xk_v, xk_n, hq, nge (show nk ≤ i by omega) (by omega), kAt]
  | succ m ih =>
    intro i hi
    rw [s_MB_kettle_2]
    simp only [s_MB_kettle_0, s_MB_kettle_1, s_MB_kettle_3, s_MB_kettle_4, s_MB_kettle_7, s_MB_kettle_10, s_MB_kettle_11, s_MB_kettle_14, s_MB_kettle_15, s_MB_kettle_16, s_MB_kettle_17, s_MB_kettle_20, s_MB_kettle_21, s_MB_kettle_22, s_MB_kettle_25, s_MB_kettle_28, s_MB_kettle_29, mF, mC, ml_64, mf_64, mw_63, mw_64, ml_74, mf_74, mw_74, ml_75, mf_75, mw_75, ml_76, mf_76, mw_76, ml_77, mf_77, mw_77, xll_11, xlg_11_0, xlg_11_1, xlg_11_2, xlg_11_3, xlg_11_4, xlg_11_5, xlg_11_6, xlg_11_7, xlg_11_8, xls_11_0, xls_11_1, xls_11_2, xls_11_3, xls_11_4, xls_11_5, xls_11_6, xls_11_7, xls_11_8, nF hM hK, nC hM hK, nl_0 hM hK, nl_1 hM hK, nl_2 hM hK, nl_3 hM hK, nl_4 hM hK, nl_5 hM hK, nl_6 hM hK, nl_7 hM hK, nf_0 hM hK, nf_1 hM hK, nf_2 hM hK, nf_3 hM hK, nf_4 hM hK, nf_5 hM hK, nf_6 hM hK, nf_7 hM hK, xll_9, xlg_9_0, xlg_9_1, xlg_9_2, xlg_9_3, xlg_9_4, xlg_9_5, xlg_9_6, xlg_9_7, xlg_9_8, xlg_9_9, xlg_9_10, xlg_9_11, xlg_9_12, xlg_9_13, not_false_eq_true, Nat.reduceLT, Nat.reduceAdd, true_and, and_true, if_true, if_false, ite_true, ite_false, xnb_0, xnb_1, xnb_b, xk_v, xk_n, hq, nlt (show i < nk by omega) (by omega), nvp (show i < 7 by omega) (by omega), ncl (show i < 2147483648 by omega), nI_1, ih (i + 1) (by omega), kAt]
    have e := hz i (by omega)
    by_cases p : g 0 i = z
    · rw [if_pos p, if_pos (e ▸ p)]
    · rw [if_neg p, if_neg (e ▸ p)]
theorem f_MB_kettle (hM : kM H K g q) (hK : mK K) (hT : kTwo b s g q co ro nk nc nn cnt rs re) {x y : Nat} (hx : x < co) (hy : y < ro) :
    xcall E xprog (d + 1) 118 [.ref K, .int (nI (co * y + x))] (mH H K th sz ea tp nw kp wc sk) Q = Q (.inl (some (.int (kAt (b 2) (b 3) (nI x) (nI y) 0 nk))), (mH H K th sz ea tp nw kp wc sk)) := by
  obtain ⟨h1, h2, h3, ⟨e1, e2, e3, e4, e5, e6⟩, h5, h6, h7, h8, h9, h10⟩ := id hT
  have hk := h3.2.1
  rw [e_MB_kettle, s_MB_kettle_0, s_MB_kettle_1]
  refine l_MB_kettle hM hK h1.2.2.1 hk _ (b 2) (b 3) (nI x) (nI y) (fun k hk => ?_) nk 0 (by omega)
  obtain ⟨u, v, z, r1, r2, r3, r4, r5, r6, r7, r8⟩ := h6 k hk
  rw [r7, r4, r5]
  exact cell_eq r1 hx e4 (by omega) (by omega)
theorem l_MB_hasCustoms (hM : kM H K g q) (hK : mK K) (hq : q 3 = nI nc) (hk : nc ≤ 6) (z : Int32) (kc kr : Nat → Int32) (x y : Int32) (hz : ∀ k, k < nc → (g 2 k = z) = (kc k = x ∧ kr k = y)) : ∀ m i, i + m = nc →
    xr E d m_MB_hasCustoms Q (2, [some (.ref K), some (.int z), some (.int (nI i))], [], (mH H K th sz ea tp nw kp wc sk)) = Q (.inl (some (.int (cAt kc kr x y i m))), (mH H K th sz ea tp nw kp wc sk)) := by
  intro m
  induction m with
  | zero =>
    intro i hi
    rw [s_MB_hasCustoms_2]
    simp only [s_MB_hasCustoms_0, s_MB_hasCustoms_1, s_MB_hasCustoms_3, s_MB_hasCustoms_4, s_MB_hasCustoms_7, s_MB_hasCustoms_10, s_MB_hasCustoms_11, s_MB_hasCustoms_14, s_MB_hasCustoms_15, s_MB_hasCustoms_16, s_MB_hasCustoms_17, s_MB_hasCustoms_20, s_MB_hasCustoms_21, s_MB_hasCustoms_22, s_MB_hasCustoms_25, s_MB_hasCustoms_28, s_MB_hasCustoms_29, mF, mC, ml_64, mf_64, mw_63, mw_64, ml_74, mf_74, mw_74, ml_75, mf_75, mw_75, ml_76, mf_76, mw_76, ml_77, mf_77, mw_77, xll_11, xlg_11_0, xlg_11_1, xlg_11_2, xlg_11_3, xlg_11_4, xlg_11_5, xlg_11_6, xlg_11_7, xlg_11_8, xls_11_0, xls_11_1, xls_11_2, xls_11_3, xls_11_4, xls_11_5, xls_11_6, xls_11_7, xls_11_8, nF hM hK, nC hM hK, nl_0 hM hK, nl_1 hM hK, nl_2 hM hK, nl_3 hM hK, nl_4 hM hK, nl_5 hM hK, nl_6 hM hK, nl_7 hM hK, nf_0 hM hK, nf_1 hM hK, nf_2 hM hK, nf_3 hM hK, nf_4 hM hK, nf_5 hM hK, nf_6 hM hK, nf_7 hM hK, xll_9, xlg_9_0, xlg_9_1, xlg_9_2, xlg_9_3, xlg_9_4, xlg_9_5, xlg_9_6, xlg_9_7, xlg_9_8, xlg_9_9, xlg_9_10, xlg_9_11, xlg_9_12, xlg_9_13, not_false_eq_true, Nat.reduceLT, Nat.reduceAdd, true_and, and_true, if_true, if_false, ite_true, ite_false, xnb_0, xnb_1, xnb_b, xk_v, xk_n, hq, nge (show nc ≤ i by omega) (by omega), cAt]
  | succ m ih =>
    intro i hi
    rw [s_MB_hasCustoms_2]
    simp only [s_MB_hasCustoms_0, s_MB_hasCustoms_1, s_MB_hasCustoms_3, s_MB_hasCustoms_4, s_MB_hasCustoms_7, s_MB_hasCustoms_10, s_MB_hasCustoms_11, s_MB_hasCustoms_14, s_MB_hasCustoms_15, s_MB_hasCustoms_16, s_MB_hasCustoms_17, s_MB_hasCustoms_20, s_MB_hasCustoms_21, s_MB_hasCustoms_22, s_MB_hasCustoms_25, s_MB_hasCustoms_28, s_MB_hasCustoms_29, mF, mC, ml_64, mf_64, mw_63, mw_64, ml_74, mf_74, mw_74, ml_75, mf_75, mw_75, ml_76, mf_76, mw_76, ml_77, mf_77, mw_77, xll_11, xlg_11_0, xlg_11_1, xlg_11_2, xlg_11_3, xlg_11_4, xlg_11_5, xlg_11_6, xlg_11_7, xlg_11_8, xls_11_0, xls_11_1, xls_11_2, xls_11_3, xls_11_4, xls_11_5, xls_11_6, xls_11_7, xls_11_8, nF hM hK, nC hM hK, nl_0 hM hK, nl_1 hM hK, nl_2 hM hK, nl_3 hM hK, nl_4 hM hK, nl_5 hM hK, nl_6 hM hK, nl_7 hM hK, nf_0 hM hK, nf_1 hM hK, nf_2 hM hK, nf_3 hM hK, nf_4 hM hK, nf_5 hM hK, nf_6 hM hK, nf_7 hM hK, xll_9, xlg_9_0, xlg_9_1, xlg_9_2, xlg_9_3, xlg_9_4, xlg_9_5, xlg_9_6, xlg_9_7, xlg_9_8, xlg_9_9, xlg_9_10, xlg_9_11, xlg_9_12, xlg_9_13, not_false_eq_true, Nat.reduceLT, Nat.reduceAdd, true_and, and_true, if_true, if_false, ite_true, ite_false, xnb_0, xnb_1, xnb_b, xk_v, xk_n, hq, nlt (show i < nc by omega) (by omega), nvp (show i < 7 by omega) (by omega), ncl (show i < 2147483648 by omega), nI_1, ih (i + 1) (by omega), cAt]
    have e := hz i (by omega)
    by_cases p : g 2 i = z
    · rw [if_pos p, if_pos (e ▸ p)]
    · rw [if_neg p, if_neg (e ▸ p)]
theorem f_MB_hasCustoms (hM : kM H K g q) (hK : mK K) (hT : kTwo b s g q co ro nk nc nn cnt rs re) {x y : Nat} (hx : x < co) (hy : y < ro) :
    xcall E xprog (d + 1) 119 [.ref K, .int (nI (co * y + x))] (mH H K th sz ea tp nw kp wc sk) Q = Q (.inl (some (.int (cAt (b 5) (b 6) (nI x) (nI y) 0 nc))), (mH H K th sz ea tp nw kp wc sk)) := by
  obtain ⟨h1, h2, h3, ⟨e1, e2, e3, e4, e5, e6⟩, h5, h6, h7, h8, h9, h10⟩ := id hT
  have hk := h3.2.2.2.1
  rw [e_MB_hasCustoms, s_MB_hasCustoms_0, s_MB_hasCustoms_1]
  refine l_MB_hasCustoms hM hK h5 hk _ (b 5) (b 6) (nI x) (nI y) (fun k hk => ?_) nc 0 (by omega)
  obtain ⟨u, v, r1, r2, r4, r5, r7⟩ := h7 k hk
  rw [r7, r4, r5]
  exact cell_eq r1 hx e4 (by omega) (by omega)
theorem f_M_cell (hM : kM H K g q) (hK : mK K) (hT : kTwo b s g q co ro nk nc nn cnt rs re) {c x y : Nat} (hc : c < nn) (hx : a 3 c = nI x) (hy : a 4 c = nI y) :
    xcall E xprog (d + 2) 176 [.ref 63, .int (nI c)] (mH H K th sz ea tp (nwO nn a t) kp wc sk) Q = Q (.inl (some (.int (nI (co * y + x)))), mH H K th sz ea tp (nwO nn a t) kp wc sk) := by
  have k2 : nn ≤ 6 := hT.2.1.2.1
  have e0 : q 0 = nI co := hT.1.1.trans hT.2.2.2.1.1
  rw [e_M_cell]
  simp only [s_M_cell_0, s_M_cell_1, s_M_cell_4, s_M_cell_7, s_M_cell_8, s_M_cell_9, s_M_cell_10, s_M_cell_13, s_M_cell_14, s_M_cell_15, s_M_cell_16, s_M_cell_17, s_M_cell_20, s_M_cell_21, mF, mC, ml_64, mf_64, mw_63, mw_64, ml_74, mf_74, mw_74, ml_75, mf_75, mw_75, ml_76, mf_76, mw_76, ml_77, mf_77, mw_77, xll_11, xlg_11_0, xlg_11_1, xlg_11_2, xlg_11_3, xlg_11_4, xlg_11_5, xlg_11_6, xlg_11_7, xlg_11_8, xls_11_0, xls_11_1, xls_11_2, xls_11_3, xls_11_4, xls_11_5, xls_11_6, xls_11_7, xls_11_8, nF hM hK, nC hM hK, nl_0 hM hK, nl_1 hM hK, nl_2 hM hK, nl_3 hM hK, nl_4 hM hK, nl_5 hM hK, nl_6 hM hK, nl_7 hM hK, nf_0 hM hK, nf_1 hM hK, nf_2 hM hK, nf_3 hM hK, nf_4 hM hK, nf_5 hM hK, nf_6 hM hK, nf_7 hM hK, xll_9, xlg_9_0, xlg_9_1, xlg_9_2, xlg_9_3, xlg_9_4, xlg_9_5, xlg_9_6, xlg_9_7, xlg_9_8, xlg_9_9, xlg_9_10, xlg_9_11, xlg_9_12, xlg_9_13, not_false_eq_true, Nat.reduceLT, Nat.reduceAdd, true_and, and_true, if_true, if_false, ite_true, ite_false, xnb_0, xnb_1, xnb_b, xk_v, xk_n, c_cl_0 c (show c < 6 by omega), c_cl_1 c (show c < 6 by omega), nw_c0 hc, nw_c1 hc, hx, hy, e0, nI_mu, nI_ad]
theorem f_M_moves (hM : kM H K g q) (hK : mK K) (hT : kTwo b s g q co ro nk nc nn cnt rs re) (hS : kSt a t co ro nk nn n) {c : Nat} (hc : c < nn) (ms sk f : Nat → Int32) : ∃ f', ∀ Q,
    xcall E xprog (d + 8) 177 [.ref 63, .int (nI c)] (mH H K th sz ea tp (nwO nn a t) kp wc f) Q =
      if movC s a c (popV (teR a b t s nk c (rs c) (re c) ms sk)) = 0 then Q (.inl (some (.int 0)), mH H K th sz ea tp (nwO nn a t) kp wc f')
      else Q (.inl (some (.int 1)), mH H K th sz ea tp (nwO nn (movR a c (popV (teR a b t s nk c (rs c) (re c) ms sk))) t) kp wc f') := by
  obtain ⟨h1, h2, h3, ⟨e1, e2, e3, e4, e5, e6⟩, h5, h6, h7, h8, h9, h10⟩ := id hT
  obtain ⟨w1, w2, w3, w4, w5, w6, w7, w8, w9⟩ := id h3
  have wc' := w9 c hc
  have k2 : nn ≤ 6 := h2.2.1
  refine ⟨(rrn (tms a b t s nk c ms) (b 0) (b 1) (rs c) (re c - rs c) (f, 0)).1, fun Q => ?_⟩
  rw [← te_same hT hc ms ms sk f]
  have hru := fun Q => f_M_rule (E := E) (d := d) (Q := Q) (ms := ms) (th := th) (sz := sz) (ea := ea) (tp := tp) (kp := kp) (wc := wc) hM hK nk nn cnt rs re h1 h2 (kSt_b hS) w8 h9 c hc wc'.1 wc'.2.1 (kTwo_sme hT hS hc (nI 0)) (h10 c hc) f
  generalize (rrn (tms a b t s nk c ms) (b 0) (b 1) (rs c) (re c - rs c) (f, 0)) = z at hru ⊢
  have e : ∀ v f, (xcall E xprog (d + 7) 173 [.ref 63, .int (nI c)] (mH H K th sz ea tp (nwO nn a t) kp wc f) = fun Q => Q (.inl (some (.int v)), mH H K th sz ea tp (nwO nn a t) kp wc z.1)) →
    xcall E xprog (d + 8) 177 [.ref 63, .int (nI c)] (mH H K th sz ea tp (nwO nn a t) kp wc f) Q =
      if movC s a c v = 0 then Q (.inl (some (.int 0)), mH H K th sz ea tp (nwO nn a t) kp wc z.1) else Q (.inl (some (.int 1)), mH H K th sz ea tp (nwO nn (movR a c v) t) kp wc z.1) := by
    intro v f hr
    rw [e_M_moves]
    simp only [s_M_moves_0, s_M_moves_1, s_M_moves_2, s_M_moves_5, s_M_moves_6, s_M_moves_7, s_M_moves_10, s_M_moves_11, s_M_moves_12, s_M_moves_13, s_M_moves_14, s_M_moves_15, s_M_moves_18, s_M_moves_19, s_M_moves_20, s_M_moves_21, s_M_moves_24, s_M_moves_25, s_M_moves_26, s_M_moves_27, s_M_moves_28, s_M_moves_29, s_M_moves_32, s_M_moves_33, s_M_moves_34, s_M_moves_35, s_M_moves_38, s_M_moves_39, s_M_moves_41, s_M_moves_42, s_M_moves_43, s_M_moves_45, s_M_moves_48, s_M_moves_51, s_M_moves_52, s_M_moves_53, s_M_moves_54, s_M_moves_55, s_M_moves_56, s_M_moves_57, s_M_moves_60, s_M_moves_61, s_M_moves_62, s_M_moves_63, s_M_moves_65, s_M_moves_68, s_M_moves_69, mF, mC, ml_64, mf_64, mw_63, mw_64, ml_74, mf_74, mw_74, ml_75, mf_75, mw_75, ml_76, mf_76, mw_76, ml_77, mf_77, mw_77, xll_11, xlg_11_0, xlg_11_1, xlg_11_2, xlg_11_3, xlg_11_4, xlg_11_5, xlg_11_6, xlg_11_7, xlg_11_8, xls_11_0, xls_11_1, xls_11_2, xls_11_3, xls_11_4, xls_11_5, xls_11_6, xls_11_7, xls_11_8, nF hM hK, nC hM hK, nl_0 hM hK, nl_1 hM hK, nl_2 hM hK, nl_3 hM hK, nl_4 hM hK, nl_5 hM hK, nl_6 hM hK, nl_7 hM hK, nf_0 hM hK, nf_1 hM hK, nf_2 hM hK, nf_3 hM hK, nf_4 hM hK, nf_5 hM hK, nf_6 hM hK, nf_7 hM hK, xll_9, xlg_9_0, xlg_9_1, xlg_9_2, xlg_9_3, xlg_9_4, xlg_9_5, xlg_9_6, xlg_9_7, xlg_9_8, xlg_9_9, xlg_9_10, xlg_9_11, xlg_9_12, xlg_9_13, not_false_eq_true, Nat.reduceLT, Nat.reduceAdd, true_and, and_true, if_true, if_false, ite_true, ite_false, xnb_0, xnb_1, xnb_b, xk_v, xk_n, hr, c_cl_0 c (show c < 6 by omega), c_cl_1 c (show c < 6 by omega), c_let_0 c (show c < 6 by omega), c_let_1 c (show c < 6 by omega), nw_c0 hc, nw_c1 hc, nwu_c0 hc, nwu_c1 hc, f_M_across, f_M_down, h_M_isCell hM hK nk h1, k4_0, u_0_0, u_0_1, u_0_2, u_0_3, u_0_4, u_0_5, u_0_6, u_0_7, u_0_8, u_1_0, u_1_1, u_1_2, u_1_3, u_1_4, u_1_5, u_1_6, u_1_7, u_1_8, u_2_0, u_2_1, u_2_2, u_2_3, u_2_4, u_2_5, u_2_6, u_2_7, u_2_8, u_3_0, u_3_1, u_3_2, u_3_3, u_3_4, u_3_5, u_3_6, u_3_7, u_3_8, u_4_0, u_4_1, u_4_2, u_4_3, u_4_4, u_4_5, u_4_6, u_4_7, u_4_8, u_5_0, u_5_1, u_5_2, u_5_3, u_5_4, u_5_5, u_5_6, u_5_7, u_5_8, u_6_0, u_6_1, u_6_2, u_6_3, u_6_4, u_6_5, u_6_6, u_6_7, u_6_8, u_7_0, u_7_1, u_7_2, u_7_3, u_7_4, u_7_5, u_7_6, u_7_7, u_7_8, u_8_0, u_8_1, u_8_2, u_8_3, u_8_4, u_8_5, u_8_6, u_8_7, u_8_8]
    by_cases p : v < 0
    · have e : movC s a c v = 0 := if_pos p
      simp only [e, if_pos p, if_true]
    · have e : movC s a c v = celC s (a 3 c + eaw (v - v / 4 * 4)) (a 4 c + sow (v - v / 4 * 4)) := if_neg p
      simp only [e, if_neg p]
      rfl
  exact e _ f (funext hru)
theorem f_M_comes (hM : kM H K g q) (hK : mK K) (hT : kTwo b s g q co ro nk nc nn cnt rs re) (hS : kSt a t co ro nk nn n) {c : Nat} (hc : c < nn) :
    xcall E xprog (d + 3) 179 [.ref 63, .int (nI c)] (mH H K th sz ea tp (nwO nn a t) kp wc sk) Q = Q (.inl none, mH H K th sz ea tp (nwO nn (winR (payR a b nc c) b c) t) kp wc sk) := by
  have k2 : nn ≤ 6 := hT.2.1.2.1
  obtain ⟨x, y, l, p, x1, x2, x3, x4, x5, x6, x7, x8⟩ := hS.2.1 c hc
  have hq : ∀ a, xr E (d + 2) m_M_comes Q (56, [some (.ref 63), some (.int (nI c))], [], mH H K th sz ea tp (nwO nn a t) kp wc sk) = Q (.inl none, mH H K th sz ea tp (nwO nn (winR a b c) t) kp wc sk) := by
    intro a
    simp only [s_M_comes_56, s_M_comes_57, s_M_comes_58, s_M_comes_61, s_M_comes_64, s_M_comes_65, s_M_comes_66, s_M_comes_67, s_M_comes_68, s_M_comes_69, s_M_comes_70, s_M_comes_71, s_M_comes_74, s_M_comes_75, s_M_comes_76, s_M_comes_77, s_M_comes_80, s_M_comes_81, s_M_comes_84, s_M_comes_85, s_M_comes_86, s_M_comes_87, s_M_comes_88, s_M_comes_91, mF, mC, ml_64, mf_64, mw_63, mw_64, ml_74, mf_74, mw_74, ml_75, mf_75, mw_75, ml_76, mf_76, mw_76, ml_77, mf_77, mw_77, xll_11, xlg_11_0, xlg_11_1, xlg_11_2, xlg_11_3, xlg_11_4, xlg_11_5, xlg_11_6, xlg_11_7, xlg_11_8, xls_11_0, xls_11_1, xls_11_2, xls_11_3, xls_11_4, xls_11_5, xls_11_6, xls_11_7, xls_11_8, not_false_eq_true, Nat.reduceLT, Nat.reduceAdd, true_and, and_true, if_true, if_false, ite_true, ite_false, xnb_0, xnb_1, xnb_b, xk_v, xk_n, f_M_isAtHome hM hK nn rs re hT.2.1 c hc, xb_0, c_cl_4 c (show c < 6 by omega), c_cl_2 c (show c < 6 by omega), c_let_4 c (show c < 6 by omega), c_let_2 c (show c < 6 by omega), nw_c4 hc, nw_c2 hc, nwu_c4 hc, nwu_c2 hc, u_0_0, u_0_1, u_0_2, u_0_3, u_0_4, u_0_5, u_0_6, u_0_7, u_0_8, u_1_0, u_1_1, u_1_2, u_1_3, u_1_4, u_1_5, u_1_6, u_1_7, u_1_8, u_2_0, u_2_1, u_2_2, u_2_3, u_2_4, u_2_5, u_2_6, u_2_7, u_2_8, u_3_0, u_3_1, u_3_2, u_3_3, u_3_4, u_3_5, u_3_6, u_3_7, u_3_8, u_4_0, u_4_1, u_4_2, u_4_3, u_4_4, u_4_5, u_4_6, u_4_7, u_4_8, u_5_0, u_5_1, u_5_2, u_5_3, u_5_4, u_5_5, u_5_6, u_5_7, u_5_8, u_6_0, u_6_1, u_6_2, u_6_3, u_6_4, u_6_5, u_6_6, u_6_7, u_6_8, u_7_0, u_7_1, u_7_2, u_7_3, u_7_4, u_7_5, u_7_6, u_7_7, u_7_8, u_8_0, u_8_1, u_8_2, u_8_3, u_8_4, u_8_5, u_8_6, u_8_7, u_8_8, winR]
    by_cases w : a 3 c = b 7 c ∧ a 4 c = b 8 c
    · rw [if_neg (not_not_intro w), if_pos w]
    · rw [if_pos w, if_neg w]
  rw [e_M_comes]
  simp only [s_M_comes_0, s_M_comes_1, s_M_comes_4, s_M_comes_5, s_M_comes_6, s_M_comes_9, s_M_comes_12, s_M_comes_15, s_M_comes_16, s_M_comes_17, s_M_comes_18, s_M_comes_19, s_M_comes_20, s_M_comes_21, s_M_comes_22, s_M_comes_25, s_M_comes_26, s_M_comes_27, s_M_comes_28, s_M_comes_31, s_M_comes_32, s_M_comes_33, s_M_comes_34, s_M_comes_35, s_M_comes_36, s_M_comes_39, s_M_comes_42, s_M_comes_43, s_M_comes_44, s_M_comes_45, s_M_comes_46, s_M_comes_47, s_M_comes_48, s_M_comes_51, s_M_comes_52, s_M_comes_53, mF, mC, ml_64, mf_64, mw_63, mw_64, ml_74, mf_74, mw_74, ml_75, mf_75, mw_75, ml_76, mf_76, mw_76, ml_77, mf_77, mw_77, xll_11, xlg_11_0, xlg_11_1, xlg_11_2, xlg_11_3, xlg_11_4, xlg_11_5, xlg_11_6, xlg_11_7, xlg_11_8, xls_11_0, xls_11_1, xls_11_2, xls_11_3, xls_11_4, xls_11_5, xls_11_6, xls_11_7, xls_11_8, nF hM hK, nC hM hK, nl_0 hM hK, nl_1 hM hK, nl_2 hM hK, nl_3 hM hK, nl_4 hM hK, nl_5 hM hK, nl_6 hM hK, nl_7 hM hK, nf_0 hM hK, nf_1 hM hK, nf_2 hM hK, nf_3 hM hK, nf_4 hM hK, nf_5 hM hK, nf_6 hM hK, nf_7 hM hK, xll_9, xlg_9_0, xlg_9_1, xlg_9_2, xlg_9_3, xlg_9_4, xlg_9_5, xlg_9_6, xlg_9_7, xlg_9_8, xlg_9_9, xlg_9_10, xlg_9_11, xlg_9_12, xlg_9_13, not_false_eq_true, Nat.reduceLT, Nat.reduceAdd, true_and, and_true, if_true, if_false, ite_true, ite_false, xnb_0, xnb_1, xnb_b, xk_v, xk_n, f_M_cell hM hK hT hc x5 x6, f_MB_hasCustoms hM hK hT x1 x2, c_cl_2 c (show c < 6 by omega), c_let_2 c (show c < 6 by omega), c_cl_5 c (show c < 6 by omega), c_let_5 c (show c < 6 by omega), nw_c2 hc, nw_c5 hc, nwu_c2 hc, nwu_c5 hc, u_0_0, u_0_1, u_0_2, u_0_3, u_0_4, u_0_5, u_0_6, u_0_7, u_0_8, u_1_0, u_1_1, u_1_2, u_1_3, u_1_4, u_1_5, u_1_6, u_1_7, u_1_8, u_2_0, u_2_1, u_2_2, u_2_3, u_2_4, u_2_5, u_2_6, u_2_7, u_2_8, u_3_0, u_3_1, u_3_2, u_3_3, u_3_4, u_3_5, u_3_6, u_3_7, u_3_8, u_4_0, u_4_1, u_4_2, u_4_3, u_4_4, u_4_5, u_4_6, u_4_7, u_4_8, u_5_0, u_5_1, u_5_2, u_5_3, u_5_4, u_5_5, u_5_6, u_5_7, u_5_8, u_6_0, u_6_1, u_6_2, u_6_3, u_6_4, u_6_5, u_6_6, u_6_7, u_6_8, u_7_0, u_7_1, u_7_2, u_7_3, u_7_4, u_7_5, u_7_6, u_7_7, u_7_8, u_8_0, u_8_1, u_8_2, u_8_3, u_8_4, u_8_5, u_8_6, u_8_7, u_8_8, k4_0, hq]
  unfold payR
  rw [x5, x6]
  by_cases w : cAt (b 5) (b 6) (nI x) (nI y) 0 nc = 0
  · rw [if_pos w, if_pos w]
  · rw [if_neg w, if_neg w]
end MGO
