/-! ===== hours go by ===== -/
section SAILS
variable {E : xE} {d D n n' Ln Mn : Nat} {Q : xR → Prop} {X X1 H : xH} {Kb Ks Kt K l : Nat} {ep th k v : Int32} {La Ma : List Value} {T : Nat → Nat} {tp : Nat → Int32} {b : Nat → Nat → Int32} {nm : Nat → Int64} {s : Nat → Int32} {a a' : Nat → Nat → Int32} {t t' : Nat → Int32} {g : Nat → Nat → Int32} {q : Nat → Int32} {co ro nk nc nn cnt : Nat} {rs re : Nat → Nat} {nw kp wc sk ms : Nat → Int32} {sz ea h : Int32} {W : Int32 → Int64 → Prop}
theorem saW_s : ∀ m i (p : bst) (w : Int32), i + m ≤ nn → saW b t s nk nc rs re i m p w = w + (sumP ((saI b t s nk nc rs re i m p).1 7) 0 nn 0 - sumP (p.1 7) 0 nn 0) := by
  intro m
  induction m with
  | zero =>
    intro i p w hi
    show w = w + (sumP (p.1 7) 0 nn 0 - sumP (p.1 7) 0 nn 0)
    rw [Int32.sub_self, Int32.add_zero]
  | succ m ih =>
    intro i p w hi
    show saW b t s nk nc rs re (i + 1) m (saC b t s nk nc rs re i p) (w + saV b t s nk nc rs re i p) = w + (sumP ((saI b t s nk nc rs re (i + 1) m (saC b t s nk nc rs re i p)).1 7) 0 nn 0 - sumP (p.1 7) 0 nn 0)
    rw [ih (i + 1) _ _ (by omega), (sa_1 (c := i) (p := p)).2, sumP_u nn 0 0 (by omega) (by omega)]
    grind
theorem phV_s {p : bst} : phV b t s nk nc nn rs re p = sumP ((phC b t s nk nc nn rs re p).1 7) 0 nn 0 - sumP (p.1 7) 0 nn 0 := by
  unfold phV phC
  rw [saW_s (nn := nn) nn 0 _ _ (by omega), Int32.zero_add]
  rfl
theorem hrV_s : ∀ m (x : bhr) (w : Int32), hrV b s nk nc nn rs re m x w = w + (sumP ((hrI b s nk nc nn rs re m x).1.1 7) 0 nn 0 - sumP (x.1.1 7) 0 nn 0) := by
  intro m
  induction m with
  | zero =>
    intro x w
    show w = w + (sumP (x.1.1 7) 0 nn 0 - sumP (x.1.1 7) 0 nn 0)
    rw [Int32.sub_self, Int32.add_zero]
  | succ m ih =>
    intro x w
    show hrV b s nk nc nn rs re m (hrC b s nk nc nn rs re x) (w + phV b x.2 s nk nc nn rs re x.1) = w + (sumP ((hrI b s nk nc nn rs re m (hrC b s nk nc nn rs re x)).1.1 7) 0 nn 0 - sumP (x.1.1 7) 0 nn 0)
    rw [ih, phV_s]
    have e : (hrC b s nk nc nn rs re x).1.1 7 = (phC b x.2 s nk nc nn rs re x.1).1 7 := rfl
    rw [e]
    grind
theorem l_M_allPoints (hM : kM H K g q) (hK : mK K) (hq : q 4 = nI nn) (h6 : nn ≤ 6) : ∀ m i z, i + m = nn →
    xr E (d + 1) m_M_allPoints Q (4, [some (.ref 63), some (.int z), some (.int (nI i))], [], mH H K th sz ea tp (nwO nn a t) kp wc sk) = Q (.inl (some (.int (sumP (a 7) i m z))), mH H K th sz ea tp (nwO nn a t) kp wc sk) := by
  intro m
  induction m with
  | zero =>
    intro i z hi
    rw [s_M_allPoints_4]
    simp only [s_M_allPoints_5, s_M_allPoints_6, s_M_allPoints_9, s_M_allPoints_12, s_M_allPoints_15, s_M_allPoints_16, s_M_allPoints_17, s_M_allPoints_18, s_M_allPoints_19, s_M_allPoints_22, s_M_allPoints_23, s_M_allPoints_24, s_M_allPoints_27, s_M_allPoints_30, s_M_allPoints_31, mF, mC, ml_64, mf_64, mw_63, mw_64, ml_74, mf_74, mw_74, ml_75, mf_75, mw_75, ml_76, mf_76, mw_76, ml_77, mf_77, mw_77, xll_11, xlg_11_0, xlg_11_1, xlg_11_2, xlg_11_3, xlg_11_4, xlg_11_5, xlg_11_6, xlg_11_7, xlg_11_8, xls_11_0, xls_11_1, xls_11_2, xls_11_3, xls_11_4, xls_11_5, xls_11_6, xls_11_7, xls_11_8, nF hM hK, nC hM hK, nl_0 hM hK, nl_1 hM hK, nl_2 hM hK, nl_3 hM hK, nl_4 hM hK, nl_5 hM hK, nl_6 hM hK, nl_7 hM hK, nf_0 hM hK, nf_1 hM hK, nf_2 hM hK, nf_3 hM hK, nf_4 hM hK, nf_5 hM hK, nf_6 hM hK, nf_7 hM hK, xll_9, xlg_9_0, xlg_9_1, xlg_9_2, xlg_9_3, xlg_9_4, xlg_9_5, xlg_9_6, xlg_9_7, xlg_9_8, xlg_9_9, xlg_9_10, xlg_9_11, xlg_9_12, xlg_9_13, not_false_eq_true, Nat.reduceLT, Nat.reduceAdd, true_and, and_true, if_true, if_false, ite_true, ite_false, xnb_0, xnb_1, xnb_b, xk_v, xk_n, hq, nge (show nn ≤ i by omega) (by omega), sumP]
  | succ m ih =>
    intro i z hi
    rw [s_M_allPoints_4]
    simp only [s_M_allPoints_5, s_M_allPoints_6, s_M_allPoints_9, s_M_allPoints_12, s_M_allPoints_15, s_M_allPoints_16, s_M_allPoints_17, s_M_allPoints_18, s_M_allPoints_19, s_M_allPoints_22, s_M_allPoints_23, s_M_allPoints_24, s_M_allPoints_27, s_M_allPoints_30, s_M_allPoints_31, mF, mC, ml_64, mf_64, mw_63, mw_64, ml_74, mf_74, mw_74, ml_75, mf_75, mw_75, ml_76, mf_76, mw_76, ml_77, mf_77, mw_77, xll_11, xlg_11_0, xlg_11_1, xlg_11_2, xlg_11_3, xlg_11_4, xlg_11_5, xlg_11_6, xlg_11_7, xlg_11_8, xls_11_0, xls_11_1, xls_11_2, xls_11_3, xls_11_4, xls_11_5, xls_11_6, xls_11_7, xls_11_8, nF hM hK, nC hM hK, nl_0 hM hK, nl_1 hM hK, nl_2 hM hK, nl_3 hM hK, nl_4 hM hK, nl_5 hM hK, nl_6 hM hK, nl_7 hM hK, nf_0 hM hK, nf_1 hM hK, nf_2 hM hK, nf_3 hM hK, nf_4 hM hK, nf_5 hM hK, nf_6 hM hK, nf_7 hM hK, xll_9, xlg_9_0, xlg_9_1, xlg_9_2, xlg_9_3, xlg_9_4, xlg_9_5, xlg_9_6, xlg_9_7, xlg_9_8, xlg_9_9, xlg_9_10, xlg_9_11, xlg_9_12, xlg_9_13, not_false_eq_true, Nat.reduceLT, Nat.reduceAdd, true_and, and_true, if_true, if_false, ite_true, ite_false, xnb_0, xnb_1, xnb_b, xk_v, xk_n, hq, nlt (show i < nn by omega) (by omega), c_cl_4 i (show i < 6 by omega), nw_c4 (show i < nn by omega), nI_1, ih (i + 1) _ (by omega), sumP]
theorem f_M_allPoints (hM : kM H K g q) (hK : mK K) (hq : q 4 = nI nn) (h6 : nn ≤ 6) : xcall E xprog (d + 2) 181 [.ref 63] (mH H K th sz ea tp (nwO nn a t) kp wc sk) Q = Q (.inl (some (.int (sumP (a 7) 0 nn 0))), mH H K th sz ea tp (nwO nn a t) kp wc sk) := by
  rw [e_M_allPoints, s_M_allPoints_0, s_M_allPoints_1, s_M_allPoints_2, s_M_allPoints_3]
  exact l_M_allPoints hM hK hq h6 nn 0 0 (by omega)
theorem in_60 {c : Int32} (h : ¬ (c < 1 ∨ 60 < c)) : ∃ i, 1 ≤ i ∧ i ≤ 60 ∧ c = nI i := by
  have e1 : (60 : Int32).toInt = 60 := by decide
  have e3 : (1 : Int32).toInt = 1 := by decide
  rw [not_or, Int32.lt_iff_toInt_lt, Int32.lt_iff_toInt_lt, e1, e3] at h
  exact ⟨c.toInt.toNat, by omega, by omega, nI_tn (by omega)⟩
theorem nI_ex (h : Int32) : ∃ k, h = nI k := ⟨h.toBitVec.toNat, Int32.toBitVec_inj.mp (BitVec.eq_of_toNat_eq (Nat.mod_eq_of_lt h.toBitVec.isLt).symm)⟩
theorem c_T_sail_o {v : Int32} (h : v < 1 ∨ 60 < v) : xcall E xprog (d + 2) 101 [.ref 0, .int v] X Q = Q (.inr 13, xnew X (.inr (13, [])) 6) := by
  have z := fun (Q : xR → Prop) => f_T_needHours (E := E) (d := d) (Q := Q) (X := X) v
  rw [e_T_sail]
  simp only [s_T_sail_0, s_T_sail_1, s_T_sail_4, s_T_sail_5, s_T_sail_8, s_T_sail_9, s_T_sail_12, not_false_eq_true, Nat.reduceLT, Nat.reduceAdd, true_and, and_true, if_true, if_false, ite_true, ite_false, xnb_0, xnb_1, xnb_b, xk_v, xk_n, z, eq_true h, xk_x (y := m_T_sail) rfl]
theorem c_T_sail_i (hc : X.1 0 = tgC Kb Ks ep) (hB : kB X Kb b nm s) (hK : Kb < 26) (hW : kW b s nk nc nn cnt rs re) {x : bhr} {j : Nat} (hj : j < 2147483648) (h : ¬ (nI j < 1 ∨ 60 < nI j)) : xcall E xprog (d + 8) 101 [.ref 0, .int (nI j)] (sX X 43 Kb x) Q = Q (.inl (some (.int (hrV b s nk nc nn rs re j x 0))), sX X 43 Kb (hrI b s nk nc nn rs re j x)) := by
  have z := fun (Q : xR → Prop) => f_T_needHours (E := E) (d := d + 6) (Q := Q) (X := sX X 43 Kb x) (nI j)
  have z2 := fun (Q : xR → Prop) => f_Bay_passHours (E := E) (d := d) (Q := Q) hB hK (show 42 < 43 by omega) nk nc nn cnt rs re hW j hj x
  have hc1 : (sX X 43 Kb x).1 0 = tgC Kb Ks ep := z_0 hc
  unfold tgC at hc1
  rw [e_T_sail]
  simp only [s_T_sail_0, s_T_sail_1, s_T_sail_4, s_T_sail_5, s_T_sail_8, s_T_sail_9, s_T_sail_12, not_false_eq_true, Nat.reduceLT, Nat.reduceAdd, true_and, and_true, if_true, if_false, ite_true, ite_false, xnb_0, xnb_1, xnb_b, xk_v, xk_n, z, eq_false h, xf_of hc1, xll_8, xlg_8_0, xlg_8_1, xlg_8_2, xlg_8_3, xlg_8_4, xlg_8_5, xlg_8_6, yCX (show 42 < 43 by omega), z2]
theorem c_M_sail_o {v : Int32} (h : v < 1 ∨ 60 < v) : xcall E xprog (d + 3) 213 [.ref 63, .int v] (mH H K th sz ea tp nw kp wc sk) Q = Q (.inl (some (.int 0)), mH H K 1 sz ea tp nw kp wc sk) := by
  have hx : ¬ (¬ v < 1 ∧ ¬ 60 < v) := fun z => h.elim z.1 z.2
  rw [e_M_sail]
  simp only [s_M_sail_0, s_M_sail_1, s_M_sail_2, s_M_sail_5, s_M_sail_6, s_M_sail_7, s_M_sail_9, s_M_sail_12, s_M_sail_15, s_M_sail_16, s_M_sail_17, s_M_sail_20, s_M_sail_21, s_M_sail_22, s_M_sail_25, s_M_sail_26, s_M_sail_27, s_M_sail_28, s_M_sail_31, s_M_sail_32, s_M_sail_35, s_M_sail_36, s_M_sail_37, mF, mC, ml_64, mf_64, mw_63, mw_64, ml_74, mf_74, mw_74, ml_75, mf_75, mw_75, ml_76, mf_76, mw_76, ml_77, mf_77, mw_77, xll_11, xlg_11_0, xlg_11_1, xlg_11_2, xlg_11_3, xlg_11_4, xlg_11_5, xlg_11_6, xlg_11_7, xlg_11_8, xls_11_0, xls_11_1, xls_11_2, xls_11_3, xls_11_4, xls_11_5, xls_11_6, xls_11_7, xls_11_8, not_false_eq_true, Nat.reduceLT, Nat.reduceAdd, true_and, and_true, if_true, if_false, ite_true, ite_false, xnb_0, xnb_1, xnb_b, xk_v, xk_n, f_M_isIn, xb_f hx, e_M_fail, s_M_fail_0, s_M_fail_1, s_M_fail_2, s_M_fail_5, s_M_fail_6]
theorem c_M_sail_i (hM : kM H K g q) (hK : mK K) (hT : kTwo b s g q co ro nk nc nn cnt rs re) {x : bhr} (hS : kSt x.1.1 x.2 co ro nk nn n) {j : Nat} (hj : j ≤ 60) (hn : n < 900000) (h : ¬ (nI j < 1 ∨ 60 < nI j)) (w f : Nat → Int32) : ∃ w' f', ∀ Q,
    xcall E xprog (d + 11) 213 [.ref 63, .int (nI j)] (mH H K th sz ea tp (nwO nn x.1.1 x.2) kp w f) Q = Q (.inl (some (.int (sumP ((hrI b s nk nc nn rs re j x).1.1 7) 0 nn 0 - sumP (x.1.1 7) 0 nn 0))), mH H K 0 sz ea tp (nwO nn (hrI b s nk nc nn rs re j x).1.1 (hrI b s nk nc nn rs re j x).2) kp w' f') := by
  have hq := hT.2.1.1
  have h6 := hT.2.1.2.1
  have hx : (¬ nI j < 1 ∧ ¬ 60 < nI j) := ⟨fun z => h (Or.inl z), fun z => h (Or.inr z)⟩
  obtain ⟨w', f', r⟩ := f_M_hoursOn (E := E) (d := d) (th := 0) (sz := sz) (ea := ea) (tp := tp) (kp := kp) hM hK hT j (by omega) hS (by omega) w f
  refine ⟨w', f', fun Q => ?_⟩
  rw [e_M_sail]
  simp only [s_M_sail_0, s_M_sail_1, s_M_sail_2, s_M_sail_5, s_M_sail_6, s_M_sail_7, s_M_sail_9, s_M_sail_12, s_M_sail_15, s_M_sail_16, s_M_sail_17, s_M_sail_20, s_M_sail_21, s_M_sail_22, s_M_sail_25, s_M_sail_26, s_M_sail_27, s_M_sail_28, s_M_sail_31, s_M_sail_32, s_M_sail_35, s_M_sail_36, s_M_sail_37, mF, mC, ml_64, mf_64, mw_63, mw_64, ml_74, mf_74, mw_74, ml_75, mf_75, mw_75, ml_76, mf_76, mw_76, ml_77, mf_77, mw_77, xll_11, xlg_11_0, xlg_11_1, xlg_11_2, xlg_11_3, xlg_11_4, xlg_11_5, xlg_11_6, xlg_11_7, xlg_11_8, xls_11_0, xls_11_1, xls_11_2, xls_11_3, xls_11_4, xls_11_5, xls_11_6, xls_11_7, xls_11_8, not_false_eq_true, Nat.reduceLT, Nat.reduceAdd, true_and, and_true, if_true, if_false, ite_true, ite_false, xnb_0, xnb_1, xnb_b, xk_v, xk_n, f_M_isIn, xb_t hx, ne_1, f_M_allPoints hM hK hq h6, r]
theorem st_sail (hI : IV n X) (hn : n < 900000) (v : Int32) : stP E (d + 11) 254 [.ref 0, .int v, .ref 78] 213 [.ref 63, .int v] (n + 360) wI X := by
  obtain ⟨Kb, Ks, K, l, ep, th, T, tp, b, nm, s, a, t, g, q, co, ro, nk, nc, nn, cnt, rs, re, hD⟩ := hI
  obtain ⟨hc, hKK, _, hB, _, hY, ⟨ms, sk, hh, hTT⟩, _⟩ := id hD.1
  have h2 := hD.2.2.2.2.1
  have hS := hD.2.2.2.2.2
  have hW := h2.2.2.1
  have hR : kRk b s g q nk := h2.1
  have hs : s 4 = nI nn := hW.2.2.2.2.1
  have hk : s 2 = nI nk := hW.1
  have h6 : nn ≤ 6 := hW.2.2.2.2.2.1
  have k6 : nk ≤ 6 := hW.2.1
  have x0 := x0_of hc
  have hX := sH_of hY hTT
  by_cases h : v < 1 ∨ 60 < v
  · exact st_thr0 (c := .inr (13, [])) hD (k := 1) (by decide) (fun Q => x_sail_13 v x0 (fun Q => c_T_sail_o (d := d + 8) h)) (fun H kp wc sk hM hK => ⟨kp, wc, sk, fun Q => c_M_sail_o (d := d + 8) h⟩) (by omega)
  obtain ⟨j, j1, j2, rfl⟩ := in_60 h
  obtain ⟨k, rfl⟩ := nI_ex hh
  let x : bhr := ((a, ms, sk, k), t)
  have hX' : X = sX X 43 Kb x := hX
  have hSj := kSt_up (hr_SI h2 j x n hS (by omega)) (show n + 6 * j ≤ n + 360 by omega)
  exact st_ok (X1 := sX X 43 Kb (hrI b s nk nc nn rs re j x)) hD (ivC_sH hD.1) (fun m h1 _ => sH_o (by omega) m (by omega)) rfl (fun f2 hf Q => w_sail (nI j) x0 (fun Q => (congrArg (fun Z => xcall E xprog (d + 10) 101 [.ref 0, .int (nI j)] Z Q) hX').trans (c_T_sail_i (d := d + 2) hc hB (by omega) hW (by omega) h)) hf)
    (fun H kp wc sk hM hK => by
      obtain ⟨w', f', r⟩ := c_M_sail_i (E := E) (d := d) (th := th) (sz := nI l) (ea := ep) (tp := tp) (kp := kp) hM hK h2 (x := x) hS j2 hn h wc sk
      exact ⟨kp, w', f', r⟩) hSj (by
      show (hrV b s nk nc nn rs re j x 0).toInt64 = _
      rw [hrV_s, Int32.zero_add])
end SAILS
