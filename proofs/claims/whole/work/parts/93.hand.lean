/-! ===== by hand ===== -/
section HAND
variable {E : xE} {d D n n' Ln Mn : Nat} {Q : xR → Prop} {X X1 H : xH} {Kb Ks Kt K l : Nat} {ep th k v : Int32} {La Ma : List Value} {T : Nat → Nat} {tp : Nat → Int32} {b : Nat → Nat → Int32} {nm : Nat → Int64} {s : Nat → Int32} {a a' : Nat → Nat → Int32} {t t' : Nat → Int32} {g : Nat → Nat → Int32} {q : Nat → Int32} {co ro nk nc nn cnt : Nat} {rs re : Nat → Nat} {nw kp wc sk ms : Nat → Int32} {sz ea h : Int32} {h' : Int32} {W : Int32 → Int64 → Prop}
theorem z43F : xfls (sH H 43 K a t ms sk h) 43 0 = [.ref 40, .ref 44, .ref 45, .ref 46, .ref 47, .ref 48, .ref 49, .ref 50, .ref 51, .ref 52, .ref K, .int (t 0), .int (t 1), .int (t 2)] := yF (B := 43) (by omega)
theorem z43C : xcl (sH H 43 K a t ms sk h) 43 = 0 := yC (B := 43) (by omega)
theorem z43W {x y z : Int32} {K' : Nat} : xset (sH H 43 K a t ms sk h) 43 (.inr (0, [.ref 40, .ref 44, .ref 45, .ref 46, .ref 47, .ref 48, .ref 49, .ref 50, .ref 51, .ref 52, .ref K', .int x, .int y, .int z])) = sH H 43 K' a (tri x y z) ms sk h := ywB (B := 43) (by omega)
theorem z43l_0 : xlenI (sH H 43 K a t ms sk h) 44 = 6 := yl_0 (B := 43) (by omega)
theorem z43f_0 : xfnI (sH H 43 K a t ms sk h) 44 = a 0 := yf_0 (B := 43) (by omega)
theorem z43l_5 : xlenI (sH H 43 K a t ms sk h) 49 = 6 := yl_5 (B := 43) (by omega)
theorem z43f_5 : xfnI (sH H 43 K a t ms sk h) 49 = a 5 := yf_5 (B := 43) (by omega)
theorem z43l_7 : xlenI (sH H 43 K a t ms sk h) 51 = 6 := yl_7 (B := 43) (by omega)
theorem z43f_7 : xfnI (sH H 43 K a t ms sk h) 51 = a 7 := yf_7 (B := 43) (by omega)
theorem z43w_0 {f : Nat → Int32} : xset (sH H 43 K a t ms sk h) 44 (xarI 6 f) = sH H 43 K (upr a 0 f) t ms sk h := yw_0 (B := 43) (by omega)
theorem z43w_5 {f : Nat → Int32} : xset (sH H 43 K a t ms sk h) 49 (xarI 6 f) = sH H 43 K (upr a 5 f) t ms sk h := yw_5 (B := 43) (by omega)
theorem z53F : xfls (sH H 53 K a t ms sk h) 53 0 = [.ref 40, .ref 54, .ref 55, .ref 56, .ref 57, .ref 58, .ref 59, .ref 60, .ref 61, .ref 62, .ref K, .int (t 0), .int (t 1), .int (t 2)] := yF (B := 53) (by omega)
theorem z53C : xcl (sH H 53 K a t ms sk h) 53 = 0 := yC (B := 53) (by omega)
theorem z53W {x y z : Int32} {K' : Nat} : xset (sH H 53 K a t ms sk h) 53 (.inr (0, [.ref 40, .ref 54, .ref 55, .ref 56, .ref 57, .ref 58, .ref 59, .ref 60, .ref 61, .ref 62, .ref K', .int x, .int y, .int z])) = sH H 53 K' a (tri x y z) ms sk h := ywB (B := 53) (by omega)
theorem z53l_7 : xlenI (sH H 53 K a t ms sk h) 61 = 6 := yl_7 (B := 53) (by omega)
theorem z53f_7 : xfnI (sH H 53 K a t ms sk h) 61 = a 7 := yf_7 (B := 53) (by omega)
theorem z_0 (hc : X.1 0 = tgC Kb Ks ep) : (sH X 43 Kb a t ms sk h).1 0 = tgC Kb Ks ep := (sH_o (by omega) 0 (by omega)).trans hc
theorem z_0t (hc : X.1 0 = tgC Kb Ks ep) : (sH X 53 K a t ms sk h).1 0 = tgC Kb Ks ep := (sH_o (by omega) 0 (by omega)).trans hc
theorem kSt_wf {w f : Nat} {z : Int32} (h : kSt a t co ro nk nn n) (hw : w ≤ 3) (hf : f ≤ 3) : kSt a (tri (nI w) (nI f) z) co ro nk nn n := ⟨h.1, h.2.1, w, f, hw, hf, rfl, rfl⟩
theorem in_3 {c : Int32} (h : ¬ (c < 0 ∨ 3 < c)) : ∃ i, i ≤ 3 ∧ c = nI i := by
  have e1 : (3 : Int32).toInt = 3 := by decide
  have e3 : (0 : Int32).toInt = 0 := by decide
  rw [not_or, Int32.lt_iff_toInt_lt, Int32.lt_iff_toInt_lt, e1, e3] at h
  exact ⟨c.toInt.toNat, by omega, nI_tn (by omega)⟩
theorem in_20 {c : Int32} (h : ¬ (c < 0 ∨ 20 < c)) : ∃ i, i ≤ 20 ∧ c = nI i := by
  have e1 : (20 : Int32).toInt = 20 := by decide
  have e3 : (0 : Int32).toInt = 0 := by decide
  rw [not_or, Int32.lt_iff_toInt_lt, Int32.lt_iff_toInt_lt, e1, e3] at h
  exact ⟨c.toInt.toNat, by omega, nI_tn (by omega)⟩
theorem di_3 {c : Int32} (h : ¬ (c < 0 ∨ ¬ c < 4)) : ¬ (c < 0 ∨ 3 < c) := by
  have := (dir_in c).mpr h
  exact fun z => z.elim this.1 this.2
theorem c_T_setWind_1 {r f : Int32} (h : r < 0 ∨ ¬ r < 4) : xcall E xprog (d + 2) 98 [.ref 0, .int r, .int f] X Q = Q (.inr 14, xnew X (.inr (14, [])) 6) := by
  have z := fun (Q : xR → Prop) => f_T_needDirection (E := E) (d := d) (Q := Q) (X := X) r
  rw [e_T_setWind]
  simp only [s_T_setWind_0, s_T_setWind_1, s_T_setWind_4, s_T_setWind_5, s_T_setWind_8, s_T_setWind_9, s_T_setWind_10, s_T_setWind_13, s_T_setWind_23, s_T_setWind_24, s_T_setWind_27, s_T_setWind_30, s_T_setWind_31, s_T_setWind_32, s_T_setWind_35, s_T_setWind_36, s_T_setWind_39, s_T_setWind_40, s_T_setWind_43, s_T_setWind_44, s_T_setWind_47, s_T_setWind_48, not_false_eq_true, Nat.reduceLT, Nat.reduceAdd, true_and, and_true, if_true, if_false, ite_true, ite_false, xnb_0, xnb_1, xnb_b, xk_v, xk_n, z, eq_true h, xk_x (y := m_T_setWind) rfl]
theorem c_T_setWind_2 {r f : Int32} (h : ¬ (r < 0 ∨ ¬ r < 4)) (h2 : f < 0 ∨ 3 < f) : xcall E xprog (d + 2) 98 [.ref 0, .int r, .int f] X Q = Q (.inr 13, xnew X (.inr (13, [])) 6) := by
  have z := fun (Q : xR → Prop) => f_T_needDirection (E := E) (d := d) (Q := Q) (X := X) r
  rw [e_T_setWind]
  by_cases p : f < 0
  · simp only [s_T_setWind_0, s_T_setWind_1, s_T_setWind_4, s_T_setWind_5, s_T_setWind_8, s_T_setWind_9, s_T_setWind_10, s_T_setWind_13, s_T_setWind_23, s_T_setWind_24, s_T_setWind_27, s_T_setWind_30, s_T_setWind_31, s_T_setWind_32, s_T_setWind_35, s_T_setWind_36, s_T_setWind_39, s_T_setWind_40, s_T_setWind_43, s_T_setWind_44, s_T_setWind_47, s_T_setWind_48, not_false_eq_true, Nat.reduceLT, Nat.reduceAdd, true_and, and_true, if_true, if_false, ite_true, ite_false, xnb_0, xnb_1, xnb_b, xk_v, xk_n, z, eq_false h, eq_true p, t_T_setWind_22]
  · simp only [s_T_setWind_0, s_T_setWind_1, s_T_setWind_4, s_T_setWind_5, s_T_setWind_8, s_T_setWind_9, s_T_setWind_10, s_T_setWind_13, s_T_setWind_23, s_T_setWind_24, s_T_setWind_27, s_T_setWind_30, s_T_setWind_31, s_T_setWind_32, s_T_setWind_35, s_T_setWind_36, s_T_setWind_39, s_T_setWind_40, s_T_setWind_43, s_T_setWind_44, s_T_setWind_47, s_T_setWind_48, not_false_eq_true, Nat.reduceLT, Nat.reduceAdd, true_and, and_true, if_true, if_false, ite_true, ite_false, xnb_0, xnb_1, xnb_b, xk_v, xk_n, z, eq_false h, eq_false p, eq_true (h2.resolve_left p), t_T_setWind_22]
theorem c_T_setWind_i (hc : X.1 0 = tgC Kb Ks ep) {r f : Int32} (h : ¬ (r < 0 ∨ ¬ r < 4)) (h2 : ¬ (f < 0 ∨ 3 < f)) : xcall E xprog (d + 2) 98 [.ref 0, .int r, .int f] (sH X 43 Kb a t ms sk h') Q = Q (.inl (some (.int (t 1))), sH X 43 Kb a (tri r f (t 2)) ms sk h') := by
  have z := fun (Q : xR → Prop) => f_T_needDirection (E := E) (d := d) (Q := Q) (X := sH X 43 Kb a t ms sk h') r
  have p1 : ¬ f < 0 := fun z => h2 (Or.inl z)
  have p2 : ¬ 3 < f := fun z => h2 (Or.inr z)
  have hc1 := fun (t : Nat → Int32) => z_0 (a := a) (t := t) (ms := ms) (sk := sk) (h := h') hc
  unfold tgC at hc1
  rw [e_T_setWind]
  simp only [s_T_setWind_0, s_T_setWind_1, s_T_setWind_4, s_T_setWind_5, s_T_setWind_8, s_T_setWind_9, s_T_setWind_10, s_T_setWind_13, s_T_setWind_23, s_T_setWind_24, s_T_setWind_27, s_T_setWind_30, s_T_setWind_31, s_T_setWind_32, s_T_setWind_35, s_T_setWind_36, s_T_setWind_39, s_T_setWind_40, s_T_setWind_43, s_T_setWind_44, s_T_setWind_47, s_T_setWind_48, not_false_eq_true, Nat.reduceLT, Nat.reduceAdd, true_and, and_true, if_true, if_false, ite_true, ite_false, xnb_0, xnb_1, xnb_b, xk_v, xk_n, z, eq_false h, eq_false p1, eq_false p2, xf_of (hc1 _), xll_8, xlg_8_0, xlg_8_1, xlg_8_2, xlg_8_3, xlg_8_4, xlg_8_5, xlg_8_6, z43F, z43C, z43W, z43l_0, z43f_0, z43l_5, z43f_5, z43l_7, z43f_7, z43w_0, z43w_5, tri_0, tri_1, tri_2, xll_0, xlg_0_0, xlg_0_1, xlg_0_2, xlg_0_3, xlg_0_4, xlg_0_5, xlg_0_6, xlg_0_7, xlg_0_8, xlg_0_9, xlg_0_10, xlg_0_11, xlg_0_12, xlg_0_13, xls_0_0, xls_0_1, xls_0_2, xls_0_3, xls_0_4, xls_0_5, xls_0_6, xls_0_7, xls_0_8, xls_0_9, xls_0_10, xls_0_11, xls_0_12, xls_0_13]
theorem c_M_setWind_1 {r f : Int32} (h : r < 0 ∨ ¬ r < 4) : xcall E xprog (d + 3) 210 [.ref 63, .int r, .int f] (mH H K th sz ea tp nw kp wc sk) Q = Q (.inl (some (.int 0)), mH H K 1 sz ea tp nw kp wc sk) := by
  have hx : ¬ (¬ r < 0 ∧ ¬ 3 < r) := fun z => (dir_in r).mp z h
  rw [e_M_setWind]
  simp only [s_M_setWind_0, s_M_setWind_1, s_M_setWind_2, s_M_setWind_5, s_M_setWind_6, s_M_setWind_7, s_M_setWind_8, s_M_setWind_11, s_M_setWind_14, s_M_setWind_15, s_M_setWind_16, s_M_setWind_19, s_M_setWind_20, s_M_setWind_21, s_M_setWind_22, s_M_setWind_23, s_M_setWind_26, s_M_setWind_29, s_M_setWind_30, s_M_setWind_31, s_M_setWind_34, s_M_setWind_35, s_M_setWind_36, s_M_setWind_39, s_M_setWind_40, s_M_setWind_41, s_M_setWind_42, s_M_setWind_43, s_M_setWind_46, s_M_setWind_47, s_M_setWind_48, s_M_setWind_49, s_M_setWind_50, s_M_setWind_53, s_M_setWind_54, s_M_setWind_55, s_M_setWind_56, s_M_setWind_57, mF, mC, ml_64, mf_64, mw_63, mw_64, ml_74, mf_74, mw_74, ml_75, mf_75, mw_75, ml_76, mf_76, mw_76, ml_77, mf_77, mw_77, xll_11, xlg_11_0, xlg_11_1, xlg_11_2, xlg_11_3, xlg_11_4, xlg_11_5, xlg_11_6, xlg_11_7, xlg_11_8, xls_11_0, xls_11_1, xls_11_2, xls_11_3, xls_11_4, xls_11_5, xls_11_6, xls_11_7, xls_11_8, not_false_eq_true, Nat.reduceLT, Nat.reduceAdd, true_and, and_true, if_true, if_false, ite_true, ite_false, xnb_0, xnb_1, xnb_b, xk_v, xk_n, f_M_isIn, xb_f hx, e_M_fail, s_M_fail_0, s_M_fail_1, s_M_fail_2, s_M_fail_5, s_M_fail_6]
theorem c_M_setWind_2 {r f : Int32} (h : ¬ (r < 0 ∨ ¬ r < 4)) (h2 : f < 0 ∨ 3 < f) : xcall E xprog (d + 3) 210 [.ref 63, .int r, .int f] (mH H K th sz ea tp nw kp wc sk) Q = Q (.inl (some (.int 0)), mH H K 2 sz ea tp nw kp wc sk) := by
  have hx : (¬ r < 0 ∧ ¬ 3 < r) := (dir_in r).mpr h
  have hy : ¬ (¬ f < 0 ∧ ¬ 3 < f) := fun z => h2.elim z.1 z.2
  rw [e_M_setWind]
  simp only [s_M_setWind_0, s_M_setWind_1, s_M_setWind_2, s_M_setWind_5, s_M_setWind_6, s_M_setWind_7, s_M_setWind_8, s_M_setWind_11, s_M_setWind_14, s_M_setWind_15, s_M_setWind_16, s_M_setWind_19, s_M_setWind_20, s_M_setWind_21, s_M_setWind_22, s_M_setWind_23, s_M_setWind_26, s_M_setWind_29, s_M_setWind_30, s_M_setWind_31, s_M_setWind_34, s_M_setWind_35, s_M_setWind_36, s_M_setWind_39, s_M_setWind_40, s_M_setWind_41, s_M_setWind_42, s_M_setWind_43, s_M_setWind_46, s_M_setWind_47, s_M_setWind_48, s_M_setWind_49, s_M_setWind_50, s_M_setWind_53, s_M_setWind_54, s_M_setWind_55, s_M_setWind_56, s_M_setWind_57, mF, mC, ml_64, mf_64, mw_63, mw_64, ml_74, mf_74, mw_74, ml_75, mf_75, mw_75, ml_76, mf_76, mw_76, ml_77, mf_77, mw_77, xll_11, xlg_11_0, xlg_11_1, xlg_11_2, xlg_11_3, xlg_11_4, xlg_11_5, xlg_11_6, xlg_11_7, xlg_11_8, xls_11_0, xls_11_1, xls_11_2, xls_11_3, xls_11_4, xls_11_5, xls_11_6, xls_11_7, xls_11_8, not_false_eq_true, Nat.reduceLT, Nat.reduceAdd, true_and, and_true, if_true, if_false, ite_true, ite_false, xnb_0, xnb_1, xnb_b, xk_v, xk_n, f_M_isIn, xb_t hx, xb_f hy, ne_1, e_M_fail, s_M_fail_0, s_M_fail_1, s_M_fail_2, s_M_fail_5, s_M_fail_6]
theorem c_M_setWind_i {r f : Int32} (h : ¬ (r < 0 ∨ ¬ r < 4)) (h2 : ¬ (f < 0 ∨ 3 < f)) : xcall E xprog (d + 3) 210 [.ref 63, .int r, .int f] (mH H K th sz ea tp (nwO nn a t) kp wc sk) Q = Q (.inl (some (.int (t 1))), mH H K 0 sz ea tp (nwO nn a (tri r f (t 2))) kp wc sk) := by
  have hx : (¬ r < 0 ∧ ¬ 3 < r) := (dir_in r).mpr h
  have hy : (¬ f < 0 ∧ ¬ 3 < f) := ⟨fun z => h2 (Or.inl z), fun z => h2 (Or.inr z)⟩
  rw [e_M_setWind]
  simp only [s_M_setWind_0, s_M_setWind_1, s_M_setWind_2, s_M_setWind_5, s_M_setWind_6, s_M_setWind_7, s_M_setWind_8, s_M_setWind_11, s_M_setWind_14, s_M_setWind_15, s_M_setWind_16, s_M_setWind_19, s_M_setWind_20, s_M_setWind_21, s_M_setWind_22, s_M_setWind_23, s_M_setWind_26, s_M_setWind_29, s_M_setWind_30, s_M_setWind_31, s_M_setWind_34, s_M_setWind_35, s_M_setWind_36, s_M_setWind_39, s_M_setWind_40, s_M_setWind_41, s_M_setWind_42, s_M_setWind_43, s_M_setWind_46, s_M_setWind_47, s_M_setWind_48, s_M_setWind_49, s_M_setWind_50, s_M_setWind_53, s_M_setWind_54, s_M_setWind_55, s_M_setWind_56, s_M_setWind_57, mF, mC, ml_64, mf_64, mw_63, mw_64, ml_74, mf_74, mw_74, ml_75, mf_75, mw_75, ml_76, mf_76, mw_76, ml_77, mf_77, mw_77, xll_11, xlg_11_0, xlg_11_1, xlg_11_2, xlg_11_3, xlg_11_4, xlg_11_5, xlg_11_6, xlg_11_7, xlg_11_8, xls_11_0, xls_11_1, xls_11_2, xls_11_3, xls_11_4, xls_11_5, xls_11_6, xls_11_7, xls_11_8, not_false_eq_true, Nat.reduceLT, Nat.reduceAdd, true_and, and_true, if_true, if_false, ite_true, ite_false, xnb_0, xnb_1, xnb_b, xk_v, xk_n, f_M_isIn, xb_t hx, xb_t hy, ne_1, show vp_in (1 : Int32) 51 = True from nvp (i := 1) (by omega) (by omega), show vp_in (2 : Int32) 51 = True from nvp (i := 2) (by omega) (by omega), show (1 : Int32).toNatClampNeg = 1 from rfl, show (2 : Int32).toNatClampNeg = 2 from rfl, nw_2, nwu_1, nwu_2, tri_0, tri_1, tri_2]
theorem st_setWind (hI : IV n X) (r f : Int32) : stP E (d + 3) 251 [.ref 0, .int r, .int f, .ref 78] 210 [.ref 63, .int r, .int f] n wI X := by
  obtain ⟨Kb, Ks, K, l, ep, th, T, tp, b, nm, s, a, t, g, q, co, ro, nk, nc, nn, cnt, rs, re, hD⟩ := hI
  obtain ⟨hc, hKK, _, hB, _, hY, ⟨ms, sk, hh, hTT⟩, _⟩ := id hD.1
  have h2 := hD.2.2.2.2.1
  have hS := hD.2.2.2.2.2
  have hW := h2.2.2.1
  have hR : kRk b s g q nk := h2.1
  have hs : s 4 = nI nn := hW.2.2.2.2.1
  have hk : s 2 = nI nk := hW.1
  have h6 : nn ≤ 6 := hW.2.2.2.2.2.1
  have k6 : nk ≤ 6 := hW.2.1
  have x0 := x0_of hc
  have hX := sH_of hY hTT
  by_cases h : r < 0 ∨ ¬ r < 4
  · exact st_thr0 (c := .inr (14, [])) hD (k := 1) (by decide) (fun Q => x_setWind_14 r f x0 (fun Q => c_T_setWind_1 (d := d) h)) (fun H kp wc sk hM hK => ⟨kp, wc, sk, fun Q => c_M_setWind_1 (d := d) h⟩) (Nat.le_refl n)
  by_cases h3 : f < 0 ∨ 3 < f
  · exact st_thr0 (c := .inr (13, [])) hD (k := 2) (by decide) (fun Q => x_setWind_13 r f x0 (fun Q => c_T_setWind_2 (d := d) h h3)) (fun H kp wc sk hM hK => ⟨kp, wc, sk, fun Q => c_M_setWind_2 (d := d) h h3⟩) (Nat.le_refl n)
  · obtain ⟨i, i1, i2⟩ := in_3 (di_3 h)
    obtain ⟨j, j1, j2⟩ := in_3 h3
    refine st_ok (X1 := sH X 43 Kb a (tri r f (t 2)) ms sk hh) hD (ivC_sH hD.1) (fun m h1 _ => sH_o (by omega) m (by omega)) rfl (fun f2 hf Q => w_setWind r f x0 (fun Q => (congrArg (fun Z => xcall E xprog (d + 2) 98 [.ref 0, .int r, .int f] Z Q) hX).trans (c_T_setWind_i (d := d) hc h h3)) hf) (fun H kp wc sk hM hK => ⟨kp, wc, sk, fun Q => c_M_setWind_i (d := d) h h3⟩) ?_ rfl
    rw [i2, j2]
    exact kSt_wf hS i1 j1
theorem c_T_jettison_1 (hc : X.1 0 = tgC Kb Ks ep) (hB : kB X Kb b nm s) (hs : s 4 = nI nn) {c v : Int32} (h : c < 0 ∨ ¬ c < nI nn) : xcall E xprog (d + 2) 99 [.ref 0, .int c, .int v] X Q = Q (.inr 14, xnew X (.inr (14, [])) 6) := by
  have z := fun (Q : xR → Prop) => f_T_needClipper (E := E) (d := d) (Q := Q) hc hB c
  rw [hs] at z
  unfold tgC at hc
  rw [e_T_jettison]
  simp only [s_T_jettison_0, s_T_jettison_1, s_T_jettison_2, s_T_jettison_5, s_T_jettison_6, s_T_jettison_7, s_T_jettison_10, s_T_jettison_20, s_T_jettison_21, s_T_jettison_22, s_T_jettison_25, s_T_jettison_28, s_T_jettison_29, s_T_jettison_30, s_T_jettison_33, s_T_jettison_43, s_T_jettison_44, s_T_jettison_47, s_T_jettison_50, s_T_jettison_51, s_T_jettison_52, s_T_jettison_53, s_T_jettison_54, s_T_jettison_55, s_T_jettison_56, s_T_jettison_57, s_T_jettison_60, s_T_jettison_63, s_T_jettison_64, s_T_jettison_65, xc_of hc, not_false_eq_true, Nat.reduceLT, Nat.reduceAdd, true_and, and_true, if_true, if_false, ite_true, ite_false, xnb_0, xnb_1, xnb_b, xk_v, xk_n, z, eq_true h, xk_x (y := m_T_jettison) rfl]
theorem c_T_jettison_2 (hc : X.1 0 = tgC Kb Ks ep) (hB : kB X Kb b nm s) (hs : s 4 = nI nn) {c v : Int32} (h : ¬ (c < 0 ∨ ¬ c < nI nn)) (h2 : v < 1) : xcall E xprog (d + 2) 99 [.ref 0, .int c, .int v] X Q = Q (.inr 13, xnew X (.inr (13, [])) 6) := by
  have z := fun (Q : xR → Prop) => f_T_needClipper (E := E) (d := d) (Q := Q) hc hB c
  rw [hs] at z
  unfold tgC at hc
  rw [e_T_jettison]
  simp only [s_T_jettison_0, s_T_jettison_1, s_T_jettison_2, s_T_jettison_5, s_T_jettison_6, s_T_jettison_7, s_T_jettison_10, s_T_jettison_20, s_T_jettison_21, s_T_jettison_22, s_T_jettison_25, s_T_jettison_28, s_T_jettison_29, s_T_jettison_30, s_T_jettison_33, s_T_jettison_43, s_T_jettison_44, s_T_jettison_47, s_T_jettison_50, s_T_jettison_51, s_T_jettison_52, s_T_jettison_53, s_T_jettison_54, s_T_jettison_55, s_T_jettison_56, s_T_jettison_57, s_T_jettison_60, s_T_jettison_63, s_T_jettison_64, s_T_jettison_65, xc_of hc, not_false_eq_true, Nat.reduceLT, Nat.reduceAdd, true_and, and_true, if_true, if_false, ite_true, ite_false, xnb_0, xnb_1, xnb_b, xk_v, xk_n, z, eq_false h, eq_true h2, t_T_jettison_19]
theorem c_T_jettison_3 (hKb : Kb < 26) (hc : X.1 0 = tgC Kb Ks ep) (hB : kB X Kb b nm s) (hs : s 4 = nI nn) (h6 : nn ≤ 6) {i : Nat} (hi : i < nn) {v : Int32} (h2 : ¬ v < 1) (h3 : a 5 i < v) : xcall E xprog (d + 2) 99 [.ref 0, .int (nI i), .int v] (sH X 43 Kb a t ms sk h') Q = Q (.inr 12, xnew (sH X 43 Kb a t ms sk h') (.inr (12, [])) 6) := by
  have hc1 := z_0 (a := a) (t := t) (ms := ms) (sk := sk) (h := h') hc
  have hKB : kB (sH X 43 Kb a t ms sk h') Kb b nm s := sH_kB hB hKb (show 42 < 43 by omega)
  have z := fun (Q : xR → Prop) => f_T_needClipper (E := E) (d := d) (Q := Q) hc1 hKB (nI i)
  rw [hs] at z
  unfold tgC at hc1
  rw [e_T_jettison]
  simp only [s_T_jettison_0, s_T_jettison_1, s_T_jettison_2, s_T_jettison_5, s_T_jettison_6, s_T_jettison_7, s_T_jettison_10, s_T_jettison_20, s_T_jettison_21, s_T_jettison_22, s_T_jettison_25, s_T_jettison_28, s_T_jettison_29, s_T_jettison_30, s_T_jettison_33, s_T_jettison_43, s_T_jettison_44, s_T_jettison_47, s_T_jettison_50, s_T_jettison_51, s_T_jettison_52, s_T_jettison_53, s_T_jettison_54, s_T_jettison_55, s_T_jettison_56, s_T_jettison_57, s_T_jettison_60, s_T_jettison_63, s_T_jettison_64, s_T_jettison_65, xc_of hc1, xf_of hc1, xll_8, xlg_8_0, xlg_8_1, xlg_8_2, xlg_8_3, xlg_8_4, xlg_8_5, xlg_8_6, not_false_eq_true, Nat.reduceLT, Nat.reduceAdd, true_and, and_true, if_true, if_false, ite_true, ite_false, xnb_0, xnb_1, xnb_b, xk_v, xk_n, z, eq_false (cl_no hi h6), eq_false h2, eq_true h3, z43F, z43C, z43W, z43l_0, z43f_0, z43l_5, z43f_5, z43l_7, z43f_7, z43w_0, z43w_5, tri_0, tri_1, tri_2, xll_0, xlg_0_0, xlg_0_1, xlg_0_2, xlg_0_3, xlg_0_4, xlg_0_5, xlg_0_6, xlg_0_7, xlg_0_8, xlg_0_9, xlg_0_10, xlg_0_11, xlg_0_12, xlg_0_13, nvp (show i < 6 by omega) (by omega), ncl (show i < 2147483648 by omega), t_T_jettison_42]
theorem c_T_jettison_i (hKb : Kb < 26) (hc : X.1 0 = tgC Kb Ks ep) (hB : kB X Kb b nm s) (hs : s 4 = nI nn) (h6 : nn ≤ 6) {i : Nat} (hi : i < nn) {v : Int32} (h2 : ¬ v < 1) (h3 : ¬ a 5 i < v) : xcall E xprog (d + 2) 99 [.ref 0, .int (nI i), .int v] (sH X 43 Kb a t ms sk h') Q = Q (.inl (some (.int (a 5 i - v))), sH X 43 Kb (upr a 5 (upd (a 5) i (a 5 i - v))) t ms sk h') := by
  have hc1 := fun (a : Nat → Nat → Int32) => z_0 (a := a) (t := t) (ms := ms) (sk := sk) (h := h') hc
  have hKB : kB (sH X 43 Kb a t ms sk h') Kb b nm s := sH_kB hB hKb (show 42 < 43 by omega)
  have z := fun (Q : xR → Prop) => f_T_needClipper (E := E) (d := d) (Q := Q) (hc1 a) hKB (nI i)
  rw [hs] at z
  unfold tgC at hc1
  rw [e_T_jettison]
  simp only [s_T_jettison_0, s_T_jettison_1, s_T_jettison_2, s_T_jettison_5, s_T_jettison_6, s_T_jettison_7, s_T_jettison_10, s_T_jettison_20, s_T_jettison_21, s_T_jettison_22, s_T_jettison_25, s_T_jettison_28, s_T_jettison_29, s_T_jettison_30, s_T_jettison_33, s_T_jettison_43, s_T_jettison_44, s_T_jettison_47, s_T_jettison_50, s_T_jettison_51, s_T_jettison_52, s_T_jettison_53, s_T_jettison_54, s_T_jettison_55, s_T_jettison_56, s_T_jettison_57, s_T_jettison_60, s_T_jettison_63, s_T_jettison_64, s_T_jettison_65, xc_of (hc1 _), xf_of (hc1 _), xll_8, xlg_8_0, xlg_8_1, xlg_8_2, xlg_8_3, xlg_8_4, xlg_8_5, xlg_8_6, not_false_eq_true, Nat.reduceLT, Nat.reduceAdd, true_and, and_true, if_true, if_false, ite_true, ite_false, xnb_0, xnb_1, xnb_b, xk_v, xk_n, z, eq_false (cl_no hi h6), eq_false h2, eq_false h3, z43F, z43C, z43W, z43l_0, z43f_0, z43l_5, z43f_5, z43l_7, z43f_7, z43w_0, z43w_5, tri_0, tri_1, tri_2, xll_0, xlg_0_0, xlg_0_1, xlg_0_2, xlg_0_3, xlg_0_4, xlg_0_5, xlg_0_6, xlg_0_7, xlg_0_8, xlg_0_9, xlg_0_10, xlg_0_11, xlg_0_12, xlg_0_13, nvp (show i < 6 by omega) (by omega), ncl (show i < 2147483648 by omega), u_5_5, upd_s]
theorem c_M_jettison_1 (hM : kM H K g q) (hK : mK K) (hC : kRc b s g q nn rs re) {c v : Int32} (h : c < 0 ∨ ¬ c < nI nn) : xcall E xprog (d + 3) 211 [.ref 63, .int c, .int v] (mH H K th sz ea tp nw kp wc sk) Q = Q (.inl (some (.int 0)), mH H K 1 sz ea tp nw kp wc sk) := by
  rw [e_M_jettison]
  simp only [s_M_jettison_0, s_M_jettison_1, s_M_jettison_2, s_M_jettison_5, s_M_jettison_6, s_M_jettison_7, s_M_jettison_10, s_M_jettison_13, s_M_jettison_14, s_M_jettison_15, s_M_jettison_18, s_M_jettison_19, s_M_jettison_20, s_M_jettison_21, s_M_jettison_24, s_M_jettison_25, s_M_jettison_26, s_M_jettison_29, s_M_jettison_30, s_M_jettison_31, s_M_jettison_32, s_M_jettison_33, s_M_jettison_36, s_M_jettison_37, s_M_jettison_40, s_M_jettison_41, s_M_jettison_42, s_M_jettison_45, s_M_jettison_46, s_M_jettison_47, s_M_jettison_48, s_M_jettison_49, s_M_jettison_50, s_M_jettison_51, s_M_jettison_52, s_M_jettison_55, s_M_jettison_56, s_M_jettison_57, s_M_jettison_60, s_M_jettison_61, s_M_jettison_62, s_M_jettison_63, s_M_jettison_66, mF, mC, ml_64, mf_64, mw_63, mw_64, ml_74, mf_74, mw_74, ml_75, mf_75, mw_75, ml_76, mf_76, mw_76, ml_77, mf_77, mw_77, xll_11, xlg_11_0, xlg_11_1, xlg_11_2, xlg_11_3, xlg_11_4, xlg_11_5, xlg_11_6, xlg_11_7, xlg_11_8, xls_11_0, xls_11_1, xls_11_2, xls_11_3, xls_11_4, xls_11_5, xls_11_6, xls_11_7, xls_11_8, nF hM hK, nC hM hK, nl_0 hM hK, nl_1 hM hK, nl_2 hM hK, nl_3 hM hK, nl_4 hM hK, nl_5 hM hK, nl_6 hM hK, nl_7 hM hK, nf_0 hM hK, nf_1 hM hK, nf_2 hM hK, nf_3 hM hK, nf_4 hM hK, nf_5 hM hK, nf_6 hM hK, nf_7 hM hK, xll_9, xlg_9_0, xlg_9_1, xlg_9_2, xlg_9_3, xlg_9_4, xlg_9_5, xlg_9_6, xlg_9_7, xlg_9_8, xlg_9_9, xlg_9_10, xlg_9_11, xlg_9_12, xlg_9_13, not_false_eq_true, Nat.reduceLT, Nat.reduceAdd, true_and, and_true, if_true, if_false, ite_true, ite_false, xnb_0, xnb_1, xnb_b, xk_v, xk_n, z_clip_o hM hK hC h, e_M_fail, s_M_fail_0, s_M_fail_1, s_M_fail_2, s_M_fail_5, s_M_fail_6]
theorem c_M_jettison_2 (hM : kM H K g q) (hK : mK K) (hC : kRc b s g q nn rs re) {c v : Int32} (h : ¬ (c < 0 ∨ ¬ c < nI nn)) (h2 : v < 1) : xcall E xprog (d + 3) 211 [.ref 63, .int c, .int v] (mH H K th sz ea tp nw kp wc sk) Q = Q (.inl (some (.int 0)), mH H K 2 sz ea tp nw kp wc sk) := by
  rw [e_M_jettison]
  simp only [s_M_jettison_0, s_M_jettison_1, s_M_jettison_2, s_M_jettison_5, s_M_jettison_6, s_M_jettison_7, s_M_jettison_10, s_M_jettison_13, s_M_jettison_14, s_M_jettison_15, s_M_jettison_18, s_M_jettison_19, s_M_jettison_20, s_M_jettison_21, s_M_jettison_24, s_M_jettison_25, s_M_jettison_26, s_M_jettison_29, s_M_jettison_30, s_M_jettison_31, s_M_jettison_32, s_M_jettison_33, s_M_jettison_36, s_M_jettison_37, s_M_jettison_40, s_M_jettison_41, s_M_jettison_42, s_M_jettison_45, s_M_jettison_46, s_M_jettison_47, s_M_jettison_48, s_M_jettison_49, s_M_jettison_50, s_M_jettison_51, s_M_jettison_52, s_M_jettison_55, s_M_jettison_56, s_M_jettison_57, s_M_jettison_60, s_M_jettison_61, s_M_jettison_62, s_M_jettison_63, s_M_jettison_66, mF, mC, ml_64, mf_64, mw_63, mw_64, ml_74, mf_74, mw_74, ml_75, mf_75, mw_75, ml_76, mf_76, mw_76, ml_77, mf_77, mw_77, xll_11, xlg_11_0, xlg_11_1, xlg_11_2, xlg_11_3, xlg_11_4, xlg_11_5, xlg_11_6, xlg_11_7, xlg_11_8, xls_11_0, xls_11_1, xls_11_2, xls_11_3, xls_11_4, xls_11_5, xls_11_6, xls_11_7, xls_11_8, nF hM hK, nC hM hK, nl_0 hM hK, nl_1 hM hK, nl_2 hM hK, nl_3 hM hK, nl_4 hM hK, nl_5 hM hK, nl_6 hM hK, nl_7 hM hK, nf_0 hM hK, nf_1 hM hK, nf_2 hM hK, nf_3 hM hK, nf_4 hM hK, nf_5 hM hK, nf_6 hM hK, nf_7 hM hK, xll_9, xlg_9_0, xlg_9_1, xlg_9_2, xlg_9_3, xlg_9_4, xlg_9_5, xlg_9_6, xlg_9_7, xlg_9_8, xlg_9_9, xlg_9_10, xlg_9_11, xlg_9_12, xlg_9_13, not_false_eq_true, Nat.reduceLT, Nat.reduceAdd, true_and, and_true, if_true, if_false, ite_true, ite_false, xnb_0, xnb_1, xnb_b, xk_v, xk_n, z_clip hM hK hC h, ne_1, eq_true h2, e_M_fail, s_M_fail_0, s_M_fail_1, s_M_fail_2, s_M_fail_5, s_M_fail_6]
theorem c_M_jettison_3 (hM : kM H K g q) (hK : mK K) (hC : kRc b s g q nn rs re) {i : Nat} (hi : i < nn) {v : Int32} (h2 : ¬ v < 1) (h3 : a 5 i < v) : xcall E xprog (d + 3) 211 [.ref 63, .int (nI i), .int v] (mH H K th sz ea tp (nwO nn a t) kp wc sk) Q = Q (.inl (some (.int 0)), mH H K 3 sz ea tp (nwO nn a t) kp wc sk) := by
  have h6 : nn ≤ 6 := hC.2.1
  rw [e_M_jettison]
  simp only [s_M_jettison_0, s_M_jettison_1, s_M_jettison_2, s_M_jettison_5, s_M_jettison_6, s_M_jettison_7, s_M_jettison_10, s_M_jettison_13, s_M_jettison_14, s_M_jettison_15, s_M_jettison_18, s_M_jettison_19, s_M_jettison_20, s_M_jettison_21, s_M_jettison_24, s_M_jettison_25, s_M_jettison_26, s_M_jettison_29, s_M_jettison_30, s_M_jettison_31, s_M_jettison_32, s_M_jettison_33, s_M_jettison_36, s_M_jettison_37, s_M_jettison_40, s_M_jettison_41, s_M_jettison_42, s_M_jettison_45, s_M_jettison_46, s_M_jettison_47, s_M_jettison_48, s_M_jettison_49, s_M_jettison_50, s_M_jettison_51, s_M_jettison_52, s_M_jettison_55, s_M_jettison_56, s_M_jettison_57, s_M_jettison_60, s_M_jettison_61, s_M_jettison_62, s_M_jettison_63, s_M_jettison_66, mF, mC, ml_64, mf_64, mw_63, mw_64, ml_74, mf_74, mw_74, ml_75, mf_75, mw_75, ml_76, mf_76, mw_76, ml_77, mf_77, mw_77, xll_11, xlg_11_0, xlg_11_1, xlg_11_2, xlg_11_3, xlg_11_4, xlg_11_5, xlg_11_6, xlg_11_7, xlg_11_8, xls_11_0, xls_11_1, xls_11_2, xls_11_3, xls_11_4, xls_11_5, xls_11_6, xls_11_7, xls_11_8, nF hM hK, nC hM hK, nl_0 hM hK, nl_1 hM hK, nl_2 hM hK, nl_3 hM hK, nl_4 hM hK, nl_5 hM hK, nl_6 hM hK, nl_7 hM hK, nf_0 hM hK, nf_1 hM hK, nf_2 hM hK, nf_3 hM hK, nf_4 hM hK, nf_5 hM hK, nf_6 hM hK, nf_7 hM hK, xll_9, xlg_9_0, xlg_9_1, xlg_9_2, xlg_9_3, xlg_9_4, xlg_9_5, xlg_9_6, xlg_9_7, xlg_9_8, xlg_9_9, xlg_9_10, xlg_9_11, xlg_9_12, xlg_9_13, not_false_eq_true, Nat.reduceLT, Nat.reduceAdd, true_and, and_true, if_true, if_false, ite_true, ite_false, xnb_0, xnb_1, xnb_b, xk_v, xk_n, z_clip hM hK hC (cl_no hi h6), ne_1, eq_false h2, c_cl_2 i (show i < 6 by omega), nw_c2 hi, eq_true h3, e_M_fail, s_M_fail_0, s_M_fail_1, s_M_fail_2, s_M_fail_5, s_M_fail_6]
theorem c_M_jettison_i (hM : kM H K g q) (hK : mK K) (hC : kRc b s g q nn rs re) {i : Nat} (hi : i < nn) {v : Int32} (h2 : ¬ v < 1) (h3 : ¬ a 5 i < v) : xcall E xprog (d + 3) 211 [.ref 63, .int (nI i), .int v] (mH H K th sz ea tp (nwO nn a t) kp wc sk) Q = Q (.inl (some (.int (a 5 i - v))), mH H K 0 sz ea tp (nwO nn (upr a 5 (upd (a 5) i (a 5 i - v))) t) kp wc sk) := by
  have h6 : nn ≤ 6 := hC.2.1
  rw [e_M_jettison]
  simp only [s_M_jettison_0, s_M_jettison_1, s_M_jettison_2, s_M_jettison_5, s_M_jettison_6, s_M_jettison_7, s_M_jettison_10, s_M_jettison_13, s_M_jettison_14, s_M_jettison_15, s_M_jettison_18, s_M_jettison_19, s_M_jettison_20, s_M_jettison_21, s_M_jettison_24, s_M_jettison_25, s_M_jettison_26, s_M_jettison_29, s_M_jettison_30, s_M_jettison_31, s_M_jettison_32, s_M_jettison_33, s_M_jettison_36, s_M_jettison_37, s_M_jettison_40, s_M_jettison_41, s_M_jettison_42, s_M_jettison_45, s_M_jettison_46, s_M_jettison_47, s_M_jettison_48, s_M_jettison_49, s_M_jettison_50, s_M_jettison_51, s_M_jettison_52, s_M_jettison_55, s_M_jettison_56, s_M_jettison_57, s_M_jettison_60, s_M_jettison_61, s_M_jettison_62, s_M_jettison_63, s_M_jettison_66, mF, mC, ml_64, mf_64, mw_63, mw_64, ml_74, mf_74, mw_74, ml_75, mf_75, mw_75, ml_76, mf_76, mw_76, ml_77, mf_77, mw_77, xll_11, xlg_11_0, xlg_11_1, xlg_11_2, xlg_11_3, xlg_11_4, xlg_11_5, xlg_11_6, xlg_11_7, xlg_11_8, xls_11_0, xls_11_1, xls_11_2, xls_11_3, xls_11_4, xls_11_5, xls_11_6, xls_11_7, xls_11_8, nF hM hK, nC hM hK, nl_0 hM hK, nl_1 hM hK, nl_2 hM hK, nl_3 hM hK, nl_4 hM hK, nl_5 hM hK, nl_6 hM hK, nl_7 hM hK, nf_0 hM hK, nf_1 hM hK, nf_2 hM hK, nf_3 hM hK, nf_4 hM hK, nf_5 hM hK, nf_6 hM hK, nf_7 hM hK, xll_9, xlg_9_0, xlg_9_1, xlg_9_2, xlg_9_3, xlg_9_4, xlg_9_5, xlg_9_6, xlg_9_7, xlg_9_8, xlg_9_9, xlg_9_10, xlg_9_11, xlg_9_12, xlg_9_13, not_false_eq_true, Nat.reduceLT, Nat.reduceAdd, true_and, and_true, if_true, if_false, ite_true, ite_false, xnb_0, xnb_1, xnb_b, xk_v, xk_n, z_clip hM hK hC (cl_no hi h6), ne_1, eq_false h2, c_cl_2 i (show i < 6 by omega), c_let_2 i (show i < 6 by omega), nwu_c2 hi, nw_c2 hi, eq_false h3, u_5_5, upd_s]
theorem st_jettison (hI : IV n X) (p v : Int32) : stP E (d + 3) 252 [.ref 0, .int p, .int v, .ref 78] 211 [.ref 63, .int p, .int v] n wI X := by
  obtain ⟨Kb, Ks, K, l, ep, th, T, tp, b, nm, s, a, t, g, q, co, ro, nk, nc, nn, cnt, rs, re, hD⟩ := hI
  obtain ⟨hc, hKK, _, hB, _, hY, ⟨ms, sk, hh, hTT⟩, _⟩ := id hD.1
  have h2 := hD.2.2.2.2.1
  have hS := hD.2.2.2.2.2
  have hW := h2.2.2.1
  have hR : kRk b s g q nk := h2.1
  have hs : s 4 = nI nn := hW.2.2.2.2.1
  have hk : s 2 = nI nk := hW.1
  have h6 : nn ≤ 6 := hW.2.2.2.2.2.1
  have k6 : nk ≤ 6 := hW.2.1
  have x0 := x0_of hc
  have hX := sH_of hY hTT
  by_cases h : p < 0 ∨ ¬ p < nI nn
  · exact st_thr0 (c := .inr (14, [])) hD (k := 1) (by decide) (fun Q => x_jettison_14 p v x0 (fun Q => c_T_jettison_1 (d := d) hc hB hs h)) (fun H kp wc sk hM hK => ⟨kp, wc, sk, fun Q => c_M_jettison_1 (d := d) hM hK h2.2.1 h⟩) (Nat.le_refl n)
  by_cases h3 : v < 1
  · exact st_thr0 (c := .inr (13, [])) hD (k := 2) (by decide) (fun Q => x_jettison_13 p v x0 (fun Q => c_T_jettison_2 (d := d) hc hB hs h h3)) (fun H kp wc sk hM hK => ⟨kp, wc, sk, fun Q => c_M_jettison_2 (d := d) hM hK h2.2.1 h h3⟩) (Nat.le_refl n)
  obtain ⟨i, hi, rfl⟩ := cl_ex h6 h
  by_cases h4 : a 5 i < v
  · exact st_thr0 (c := .inr (12, [])) hD (k := 3) (by decide) (fun Q => x_jettison_12 (nI i) v x0 (fun Q => (congrArg (fun Z => xcall E xprog (d + 2) 99 [.ref 0, .int (nI i), .int v] Z Q) hX).trans ((c_T_jettison_3 (d := d) (by omega) hc hB hs h6 hi h3 h4).trans (by rw [← hX])))) (fun H kp wc sk hM hK => ⟨kp, wc, sk, fun Q => c_M_jettison_3 (d := d) hM hK h2.2.1 hi h3 h4⟩) (Nat.le_refl n)
  · refine st_ok (X1 := sH X 43 Kb (upr a 5 (upd (a 5) i (a 5 i - v))) t ms sk hh) hD (ivC_sH hD.1) (fun m h1 _ => sH_o (by omega) m (by omega)) rfl (fun f2 hf Q => w_jettison (nI i) v x0 (fun Q => (congrArg (fun Z => xcall E xprog (d + 2) 99 [.ref 0, .int (nI i), .int v] Z Q) hX).trans (c_T_jettison_i (d := d) (by omega) hc hB hs h6 hi h3 h4)) hf) (fun H kp wc sk hM hK => ⟨kp, wc, sk, fun Q => c_M_jettison_i (d := d) hM hK h2.2.1 hi h3 h4⟩) (kSt_5 hS ?_) rfl
    obtain ⟨x, y, l, p, g1, g2, g3, g4, g5, g6, g7, g8⟩ := hS.2.1 i hi
    have e1 := nI_i (x := l) (by omega)
    have e2 : (1 : Int32).toInt = 1 := by decide
    rw [g7] at h4 ⊢
    rw [Int32.lt_iff_toInt_lt, e1] at h4
    rw [Int32.lt_iff_toInt_lt, e2] at h3
    have e3 : (nI l - v).toInt = l - v.toInt := by rw [ti_sub (by omega) (by omega), e1]
    exact ⟨(nI l - v).toInt.toNat, by omega, nI_tn (by omega)⟩
theorem c_T_calmKettle_1 (hc : X.1 0 = tgC Kb Ks ep) (hB : kB X Kb b nm s) (hs : s 2 = nI nk) {c v : Int32} (h : c < 0 ∨ ¬ c < nI nk) : xcall E xprog (d + 2) 100 [.ref 0, .int c, .int v] X Q = Q (.inr 14, xnew X (.inr (14, [])) 6) := by
  have z := fun (Q : xR → Prop) => f_T_needKettle (E := E) (d := d) (Q := Q) hc hB c
  rw [hs] at z
  unfold tgC at hc
  rw [e_T_calmKettle]
  simp only [s_T_calmKettle_0, s_T_calmKettle_1, s_T_calmKettle_2, s_T_calmKettle_5, s_T_calmKettle_6, s_T_calmKettle_9, s_T_calmKettle_10, s_T_calmKettle_12, s_T_calmKettle_15, s_T_calmKettle_25, s_T_calmKettle_26, s_T_calmKettle_29, s_T_calmKettle_32, s_T_calmKettle_33, s_T_calmKettle_34, s_T_calmKettle_35, s_T_calmKettle_36, s_T_calmKettle_39, s_T_calmKettle_42, s_T_calmKettle_43, s_T_calmKettle_44, s_T_calmKettle_45, s_T_calmKettle_46, xc_of hc, not_false_eq_true, Nat.reduceLT, Nat.reduceAdd, true_and, and_true, if_true, if_false, ite_true, ite_false, xnb_0, xnb_1, xnb_b, xk_v, xk_n, z, eq_true h, xk_x (y := m_T_calmKettle) rfl]
theorem c_T_calmKettle_2 (hc : X.1 0 = tgC Kb Ks ep) (hB : kB X Kb b nm s) (hs : s 2 = nI nk) {c v : Int32} (h : ¬ (c < 0 ∨ ¬ c < nI nk)) (h2 : v < 0 ∨ 20 < v) : xcall E xprog (d + 2) 100 [.ref 0, .int c, .int v] X Q = Q (.inr 13, xnew X (.inr (13, [])) 6) := by
  have z := fun (Q : xR → Prop) => f_T_needKettle (E := E) (d := d) (Q := Q) hc hB c
  rw [hs] at z
  unfold tgC at hc
  rw [e_T_calmKettle]
  by_cases p : v < 0
  · simp only [s_T_calmKettle_0, s_T_calmKettle_1, s_T_calmKettle_2, s_T_calmKettle_5, s_T_calmKettle_6, s_T_calmKettle_9, s_T_calmKettle_10, s_T_calmKettle_12, s_T_calmKettle_15, s_T_calmKettle_25, s_T_calmKettle_26, s_T_calmKettle_29, s_T_calmKettle_32, s_T_calmKettle_33, s_T_calmKettle_34, s_T_calmKettle_35, s_T_calmKettle_36, s_T_calmKettle_39, s_T_calmKettle_42, s_T_calmKettle_43, s_T_calmKettle_44, s_T_calmKettle_45, s_T_calmKettle_46, xc_of hc, not_false_eq_true, Nat.reduceLT, Nat.reduceAdd, true_and, and_true, if_true, if_false, ite_true, ite_false, xnb_0, xnb_1, xnb_b, xk_v, xk_n, z, eq_false h, eq_true p, t_T_calmKettle_24]
  · simp only [s_T_calmKettle_0, s_T_calmKettle_1, s_T_calmKettle_2, s_T_calmKettle_5, s_T_calmKettle_6, s_T_calmKettle_9, s_T_calmKettle_10, s_T_calmKettle_12, s_T_calmKettle_15, s_T_calmKettle_25, s_T_calmKettle_26, s_T_calmKettle_29, s_T_calmKettle_32, s_T_calmKettle_33, s_T_calmKettle_34, s_T_calmKettle_35, s_T_calmKettle_36, s_T_calmKettle_39, s_T_calmKettle_42, s_T_calmKettle_43, s_T_calmKettle_44, s_T_calmKettle_45, s_T_calmKettle_46, xc_of hc, not_false_eq_true, Nat.reduceLT, Nat.reduceAdd, true_and, and_true, if_true, if_false, ite_true, ite_false, xnb_0, xnb_1, xnb_b, xk_v, xk_n, z, eq_false h, eq_false p, eq_true (h2.resolve_left p), t_T_calmKettle_24]
theorem c_T_calmKettle_i (hKb : Kb < 26) (hc : X.1 0 = tgC Kb Ks ep) (hB : kB X Kb b nm s) (hs : s 2 = nI nk) (h6 : nk ≤ 6) {i : Nat} (hi : i < nk) {v : Int32} (h2 : ¬ (v < 0 ∨ 20 < v)) : xcall E xprog (d + 2) 100 [.ref 0, .int (nI i), .int v] (sH X 43 Kb a t ms sk h') Q = Q (.inl (some (.int (a 0 i))), sH X 43 Kb (upr a 0 (upd (a 0) i v)) t ms sk h') := by
  have hc1 := fun (a : Nat → Nat → Int32) => z_0 (a := a) (t := t) (ms := ms) (sk := sk) (h := h') hc
  have hKB : kB (sH X 43 Kb a t ms sk h') Kb b nm s := sH_kB hB hKb (show 42 < 43 by omega)
  have z := fun (Q : xR → Prop) => f_T_needKettle (E := E) (d := d) (Q := Q) (hc1 a) hKB (nI i)
  have p1 : ¬ v < 0 := fun z => h2 (Or.inl z)
  have p2 : ¬ 20 < v := fun z => h2 (Or.inr z)
  rw [hs] at z
  unfold tgC at hc1
  rw [e_T_calmKettle]
  simp only [s_T_calmKettle_0, s_T_calmKettle_1, s_T_calmKettle_2, s_T_calmKettle_5, s_T_calmKettle_6, s_T_calmKettle_9, s_T_calmKettle_10, s_T_calmKettle_12, s_T_calmKettle_15, s_T_calmKettle_25, s_T_calmKettle_26, s_T_calmKettle_29, s_T_calmKettle_32, s_T_calmKettle_33, s_T_calmKettle_34, s_T_calmKettle_35, s_T_calmKettle_36, s_T_calmKettle_39, s_T_calmKettle_42, s_T_calmKettle_43, s_T_calmKettle_44, s_T_calmKettle_45, s_T_calmKettle_46, xc_of (hc1 _), xf_of (hc1 _), xll_8, xlg_8_0, xlg_8_1, xlg_8_2, xlg_8_3, xlg_8_4, xlg_8_5, xlg_8_6, not_false_eq_true, Nat.reduceLT, Nat.reduceAdd, true_and, and_true, if_true, if_false, ite_true, ite_false, xnb_0, xnb_1, xnb_b, xk_v, xk_n, z, eq_false (cl_no hi h6), eq_false p1, eq_false p2, z43F, z43C, z43W, z43l_0, z43f_0, z43l_5, z43f_5, z43l_7, z43f_7, z43w_0, z43w_5, tri_0, tri_1, tri_2, xll_0, xlg_0_0, xlg_0_1, xlg_0_2, xlg_0_3, xlg_0_4, xlg_0_5, xlg_0_6, xlg_0_7, xlg_0_8, xlg_0_9, xlg_0_10, xlg_0_11, xlg_0_12, xlg_0_13, nvp (show i < 6 by omega) (by omega), ncl (show i < 2147483648 by omega)]
theorem f_M_isKettle' (hM : kM H K g q) (hK : mK K) (c : Int32) : xcall E xprog (d + 2) 187 [.ref 63, .int c] (mH H K th sz ea tp nw kp wc sk) Q = Q (.inl (some (.int (xb (¬ c < 0 ∧ ¬ q 2 - 1 < c)))), (mH H K th sz ea tp nw kp wc sk)) := by
  rw [e_M_isKettle]
  simp only [s_M_isKettle_0, s_M_isKettle_1, s_M_isKettle_2, s_M_isKettle_3, s_M_isKettle_6, s_M_isKettle_9, s_M_isKettle_10, s_M_isKettle_11, s_M_isKettle_14, mF, mC, ml_64, mf_64, mw_63, mw_64, ml_74, mf_74, mw_74, ml_75, mf_75, mw_75, ml_76, mf_76, mw_76, ml_77, mf_77, mw_77, xll_11, xlg_11_0, xlg_11_1, xlg_11_2, xlg_11_3, xlg_11_4, xlg_11_5, xlg_11_6, xlg_11_7, xlg_11_8, xls_11_0, xls_11_1, xls_11_2, xls_11_3, xls_11_4, xls_11_5, xls_11_6, xls_11_7, xls_11_8, nF hM hK, nC hM hK, nl_0 hM hK, nl_1 hM hK, nl_2 hM hK, nl_3 hM hK, nl_4 hM hK, nl_5 hM hK, nl_6 hM hK, nl_7 hM hK, nf_0 hM hK, nf_1 hM hK, nf_2 hM hK, nf_3 hM hK, nf_4 hM hK, nf_5 hM hK, nf_6 hM hK, nf_7 hM hK, xll_9, xlg_9_0, xlg_9_1, xlg_9_2, xlg_9_3, xlg_9_4, xlg_9_5, xlg_9_6, xlg_9_7, xlg_9_8, xlg_9_9, xlg_9_10, xlg_9_11, xlg_9_12, xlg_9_13, not_false_eq_true, Nat.reduceLT, Nat.reduceAdd, true_and, and_true, if_true, if_false, ite_true, ite_false, xnb_0, xnb_1, xnb_b, xk_v, xk_n, f_M_isIn]
theorem z_ket (hM : kM H K g q) (hK : mK K) (hC : kRk b s g q nk) {c : Int32} (h : ¬ (c < 0 ∨ ¬ c < nI nk)) : ∀ Q, xcall E xprog (d + 2) 187 [.ref 63, .int c] (mH H K th sz ea tp nw kp wc sk) Q = Q (.inl (some (.int 1)), (mH H K th sz ea tp nw kp wc sk)) := fun Q => by
  rw [f_M_isKettle' hM hK, hC.2.2.1, xb_t ((rng_in hC.2.2.2.1 c).mpr ⟨fun z => h (Or.inl z), Decidable.byContradiction fun z => h (Or.inr z)⟩)]
theorem z_ket_o (hM : kM H K g q) (hK : mK K) (hC : kRk b s g q nk) {c : Int32} (h : c < 0 ∨ ¬ c < nI nk) : ∀ Q, xcall E xprog (d + 2) 187 [.ref 63, .int c] (mH H K th sz ea tp nw kp wc sk) Q = Q (.inl (some (.int 0)), (mH H K th sz ea tp nw kp wc sk)) := fun Q => by
  rw [f_M_isKettle' hM hK, hC.2.2.1, xb_f (fun z => h.elim ((rng_in hC.2.2.2.1 c).mp z).1 (fun w => w ((rng_in hC.2.2.2.1 c).mp z).2))]
theorem c_M_calmKettle_1 (hM : kM H K g q) (hK : mK K) (hC : kRk b s g q nk) {c v : Int32} (h : c < 0 ∨ ¬ c < nI nk) : xcall E xprog (d + 3) 212 [.ref 63, .int c, .int v] (mH H K th sz ea tp nw kp wc sk) Q = Q (.inl (some (.int 0)), mH H K 1 sz ea tp nw kp wc sk) := by
  rw [e_M_calmKettle]
  simp only [s_M_calmKettle_0, s_M_calmKettle_1, s_M_calmKettle_2, s_M_calmKettle_5, s_M_calmKettle_6, s_M_calmKettle_7, s_M_calmKettle_10, s_M_calmKettle_13, s_M_calmKettle_14, s_M_calmKettle_15, s_M_calmKettle_18, s_M_calmKettle_19, s_M_calmKettle_20, s_M_calmKettle_21, s_M_calmKettle_23, s_M_calmKettle_26, s_M_calmKettle_29, s_M_calmKettle_30, s_M_calmKettle_31, s_M_calmKettle_34, s_M_calmKettle_35, s_M_calmKettle_36, s_M_calmKettle_37, s_M_calmKettle_38, s_M_calmKettle_41, s_M_calmKettle_42, s_M_calmKettle_43, s_M_calmKettle_44, s_M_calmKettle_45, s_M_calmKettle_46, s_M_calmKettle_49, s_M_calmKettle_50, mF, mC, ml_64, mf_64, mw_63, mw_64, ml_74, mf_74, mw_74, ml_75, mf_75, mw_75, ml_76, mf_76, mw_76, ml_77, mf_77, mw_77, xll_11, xlg_11_0, xlg_11_1, xlg_11_2, xlg_11_3, xlg_11_4, xlg_11_5, xlg_11_6, xlg_11_7, xlg_11_8, xls_11_0, xls_11_1, xls_11_2, xls_11_3, xls_11_4, xls_11_5, xls_11_6, xls_11_7, xls_11_8, nF hM hK, nC hM hK, nl_0 hM hK, nl_1 hM hK, nl_2 hM hK, nl_3 hM hK, nl_4 hM hK, nl_5 hM hK, nl_6 hM hK, nl_7 hM hK, nf_0 hM hK, nf_1 hM hK, nf_2 hM hK, nf_3 hM hK, nf_4 hM hK, nf_5 hM hK, nf_6 hM hK, nf_7 hM hK, xll_9, xlg_9_0, xlg_9_1, xlg_9_2, xlg_9_3, xlg_9_4, xlg_9_5, xlg_9_6, xlg_9_7, xlg_9_8, xlg_9_9, xlg_9_10, xlg_9_11, xlg_9_12, xlg_9_13, not_false_eq_true, Nat.reduceLT, Nat.reduceAdd, true_and, and_true, if_true, if_false, ite_true, ite_false, xnb_0, xnb_1, xnb_b, xk_v, xk_n, z_ket_o hM hK hC h, e_M_fail, s_M_fail_0, s_M_fail_1, s_M_fail_2, s_M_fail_5, s_M_fail_6]
theorem c_M_calmKettle_2 (hM : kM H K g q) (hK : mK K) (hC : kRk b s g q nk) {c v : Int32} (h : ¬ (c < 0 ∨ ¬ c < nI nk)) (h2 : v < 0 ∨ 20 < v) : xcall E xprog (d + 3) 212 [.ref 63, .int c, .int v] (mH H K th sz ea tp nw kp wc sk) Q = Q (.inl (some (.int 0)), mH H K 2 sz ea tp nw kp wc sk) := by
  have hy : ¬ (¬ v < 0 ∧ ¬ 20 < v) := fun z => h2.elim z.1 z.2
  rw [e_M_calmKettle]
  simp only [s_M_calmKettle_0, s_M_calmKettle_1, s_M_calmKettle_2, s_M_calmKettle_5, s_M_calmKettle_6, s_M_calmKettle_7, s_M_calmKettle_10, s_M_calmKettle_13, s_M_calmKettle_14, s_M_calmKettle_15, s_M_calmKettle_18, s_M_calmKettle_19, s_M_calmKettle_20, s_M_calmKettle_21, s_M_calmKettle_23, s_M_calmKettle_26, s_M_calmKettle_29, s_M_calmKettle_30, s_M_calmKettle_31, s_M_calmKettle_34, s_M_calmKettle_35, s_M_calmKettle_36, s_M_calmKettle_37, s_M_calmKettle_38, s_M_calmKettle_41, s_M_calmKettle_42, s_M_calmKettle_43, s_M_calmKettle_44, s_M_calmKettle_45, s_M_calmKettle_46, s_M_calmKettle_49, s_M_calmKettle_50, mF, mC, ml_64, mf_64, mw_63, mw_64, ml_74, mf_74, mw_74, ml_75, mf_75, mw_75, ml_76, mf_76, mw_76, ml_77, mf_77, mw_77, xll_11, xlg_11_0, xlg_11_1, xlg_11_2, xlg_11_3, xlg_11_4, xlg_11_5, xlg_11_6, xlg_11_7, xlg_11_8, xls_11_0, xls_11_1, xls_11_2, xls_11_3, xls_11_4, xls_11_5, xls_11_6, xls_11_7, xls_11_8, nF hM hK, nC hM hK, nl_0 hM hK, nl_1 hM hK, nl_2 hM hK, nl_3 hM hK, nl_4 hM hK, nl_5 hM hK, nl_6 hM hK, nl_7 hM hK, nf_0 hM hK, nf_1 hM hK, nf_2 hM hK, nf_3 hM hK, nf_4 hM hK, nf_5 hM hK, nf_6 hM hK, nf_7 hM hK, xll_9, xlg_9_0, xlg_9_1, xlg_9_2, xlg_9_3, xlg_9_4, xlg_9_5, xlg_9_6, xlg_9_7, xlg_9_8, xlg_9_9, xlg_9_10, xlg_9_11, xlg_9_12, xlg_9_13, not_false_eq_true, Nat.reduceLT, Nat.reduceAdd, true_and, and_true, if_true, if_false, ite_true, ite_false, xnb_0, xnb_1, xnb_b, xk_v, xk_n, z_ket hM hK hC h, ne_1, f_M_isIn, xb_f hy, e_M_fail, s_M_fail_0, s_M_fail_1, s_M_fail_2, s_M_fail_5, s_M_fail_6]
theorem c_M_calmKettle_i (hM : kM H K g q) (hK : mK K) (hC : kRk b s g q nk) {i : Nat} (hi : i < nk) {v : Int32} (h2 : ¬ (v < 0 ∨ 20 < v)) : xcall E xprog (d + 3) 212 [.ref 63, .int (nI i), .int v] (mH H K th sz ea tp (nwO nn a t) kp wc sk) Q = Q (.inl (some (.int (a 0 i))), mH H K 0 sz ea tp (nwO nn (upr a 0 (upd (a 0) i v)) t) kp wc sk) := by
  have h6 : nk ≤ 6 := hC.2.2.2.1
  have hy : (¬ v < 0 ∧ ¬ 20 < v) := ⟨fun z => h2 (Or.inl z), fun z => h2 (Or.inr z)⟩
  rw [e_M_calmKettle]
  simp only [s_M_calmKettle_0, s_M_calmKettle_1, s_M_calmKettle_2, s_M_calmKettle_5, s_M_calmKettle_6, s_M_calmKettle_7, s_M_calmKettle_10, s_M_calmKettle_13, s_M_calmKettle_14, s_M_calmKettle_15, s_M_calmKettle_18, s_M_calmKettle_19, s_M_calmKettle_20, s_M_calmKettle_21, s_M_calmKettle_23, s_M_calmKettle_26, s_M_calmKettle_29, s_M_calmKettle_30, s_M_calmKettle_31, s_M_calmKettle_34, s_M_calmKettle_35, s_M_calmKettle_36, s_M_calmKettle_37, s_M_calmKettle_38, s_M_calmKettle_41, s_M_calmKettle_42, s_M_calmKettle_43, s_M_calmKettle_44, s_M_calmKettle_45, s_M_calmKettle_46, s_M_calmKettle_49, s_M_calmKettle_50, mF, mC, ml_64, mf_64, mw_63, mw_64, ml_74, mf_74, mw_74, ml_75, mf_75, mw_75, ml_76, mf_76, mw_76, ml_77, mf_77, mw_77, xll_11, xlg_11_0, xlg_11_1, xlg_11_2, xlg_11_3, xlg_11_4, xlg_11_5, xlg_11_6, xlg_11_7, xlg_11_8, xls_11_0, xls_11_1, xls_11_2, xls_11_3, xls_11_4, xls_11_5, xls_11_6, xls_11_7, xls_11_8, nF hM hK, nC hM hK, nl_0 hM hK, nl_1 hM hK, nl_2 hM hK, nl_3 hM hK, nl_4 hM hK, nl_5 hM hK, nl_6 hM hK, nl_7 hM hK, nf_0 hM hK, nf_1 hM hK, nf_2 hM hK, nf_3 hM hK, nf_4 hM hK, nf_5 hM hK, nf_6 hM hK, nf_7 hM hK, xll_9, xlg_9_0, xlg_9_1, xlg_9_2, xlg_9_3, xlg_9_4, xlg_9_5, xlg_9_6, xlg_9_7, xlg_9_8, xlg_9_9, xlg_9_10, xlg_9_11, xlg_9_12, xlg_9_13, not_false_eq_true, Nat.reduceLT, Nat.reduceAdd, true_and, and_true, if_true, if_false, ite_true, ite_false, xnb_0, xnb_1, xnb_b, xk_v, xk_n, z_ket hM hK hC (cl_no hi h6), ne_1, f_M_isIn, xb_t hy, c_ke_0 i (show i < 6 by omega), c_letKettle_0 i (show i < 6 by omega), nw_k0 (show i < 6 by omega), nwu_k0 (show i < 6 by omega)]
theorem st_calmKettle (hI : IV n X) (p v : Int32) : stP E (d + 3) 253 [.ref 0, .int p, .int v, .ref 78] 212 [.ref 63, .int p, .int v] n wI X := by
  obtain ⟨Kb, Ks, K, l, ep, th, T, tp, b, nm, s, a, t, g, q, co, ro, nk, nc, nn, cnt, rs, re, hD⟩ := hI
  obtain ⟨hc, hKK, _, hB, _, hY, ⟨ms, sk, hh, hTT⟩, _⟩ := id hD.1
  have h2 := hD.2.2.2.2.1
  have hS := hD.2.2.2.2.2
  have hW := h2.2.2.1
  have hR : kRk b s g q nk := h2.1
  have hs : s 4 = nI nn := hW.2.2.2.2.1
  have hk : s 2 = nI nk := hW.1
  have h6 : nn ≤ 6 := hW.2.2.2.2.2.1
  have k6 : nk ≤ 6 := hW.2.1
  have x0 := x0_of hc
  have hX := sH_of hY hTT
  by_cases h : p < 0 ∨ ¬ p < nI nk
  · exact st_thr0 (c := .inr (14, [])) hD (k := 1) (by decide) (fun Q => x_calmKettle_14 p v x0 (fun Q => c_T_calmKettle_1 (d := d) hc hB hk h)) (fun H kp wc sk hM hK => ⟨kp, wc, sk, fun Q => c_M_calmKettle_1 (d := d) hM hK hR h⟩) (Nat.le_refl n)
  by_cases h3 : v < 0 ∨ 20 < v
  · exact st_thr0 (c := .inr (13, [])) hD (k := 2) (by decide) (fun Q => x_calmKettle_13 p v x0 (fun Q => c_T_calmKettle_2 (d := d) hc hB hk h h3)) (fun H kp wc sk hM hK => ⟨kp, wc, sk, fun Q => c_M_calmKettle_2 (d := d) hM hK hR h h3⟩) (Nat.le_refl n)
  obtain ⟨i, hi, rfl⟩ := cl_ex k6 h
  refine st_ok (X1 := sH X 43 Kb (upr a 0 (upd (a 0) i v)) t ms sk hh) hD (ivC_sH hD.1) (fun m h1 _ => sH_o (by omega) m (by omega)) rfl (fun f2 hf Q => w_calmKettle (nI i) v x0 (fun Q => (congrArg (fun Z => xcall E xprog (d + 2) 100 [.ref 0, .int (nI i), .int v] Z Q) hX).trans (c_T_calmKettle_i (d := d) (by omega) hc hB hk k6 hi h3)) hf) (fun H kp wc sk hM hK => ⟨kp, wc, sk, fun Q => c_M_calmKettle_i (d := d) hM hK hR hi h3⟩) (kSt_0 hS ?_) rfl
  intro k hk
  obtain ⟨j, j1, j2⟩ := in_20 h3
  by_cases w : k = i
  · rw [w, upd_s]
    exact ⟨j, j1, j2⟩
  · rw [upd_o w]
    exact hS.1 k hk
end HAND
