/-! ===== the best wind ===== -/
section BESTW
variable {E : xE} {d D n n' Ln Mn : Nat} {Q : xR → Prop} {X X1 H : xH} {Kb Ks Kt K l : Nat} {ep th k v : Int32} {La Ma : List Value} {T : Nat → Nat} {tp : Nat → Int32} {b : Nat → Nat → Int32} {nm : Nat → Int64} {s : Nat → Int32} {a a' : Nat → Nat → Int32} {t t' : Nat → Int32} {g : Nat → Nat → Int32} {q : Nat → Int32} {co ro nk nc nn cnt : Nat} {rs re : Nat → Nat} {nw kp wc sk ms : Nat → Int32} {sz ea h : Int32} {W : Int32 → Int64 → Prop}
variable {x y : bhr}
/-- the trial behind j hours with a wind to i -/
def bwS (b : Nat → Nat → Int32) (s : Nat → Int32) (nk nc nn : Nat) (rs re : Nat → Nat) (a : Nat → Nat → Int32) (t : Nat → Int32) (j i : Nat) (y : bhr) : bhr := hrI b s nk nc nn rs re j ((cpA y.1.1 a, y.1.2), tri (nI i) (t 1) (t 2))
def bwY (b : Nat → Nat → Int32) (s : Nat → Int32) (nk nc nn : Nat) (rs re : Nat → Nat) (a : Nat → Nat → Int32) (t : Nat → Int32) (j : Nat) : Nat → Nat → bhr → bhr
  | _, 0, y => y
  | i, m + 1, y => bwY b s nk nc nn rs re a t j (i + 1) m (bwS b s nk nc nn rs re a t j i y)
def bwR (b : Nat → Nat → Int32) (s : Nat → Int32) (nk nc nn : Nat) (rs re : Nat → Nat) (a : Nat → Nat → Int32) (t : Nat → Int32) (j c : Nat) : Nat → Nat → bhr → Int32 → Int32 → Int32
  | _, 0, _, best, _ => best
  | i, m + 1, y, best, most => if most < (bwS b s nk nc nn rs re a t j i y).1.1 7 c then bwR b s nk nc nn rs re a t j c (i + 1) m (bwS b s nk nc nn rs re a t j i y) (nI i) ((bwS b s nk nc nn rs re a t j i y).1.1 7 c) else bwR b s nk nc nn rs re a t j c (i + 1) m (bwS b s nk nc nn rs re a t j i y) best most
def bwK (Kt Kb m : Nat) : Nat := if m = 0 then Kt else Kb
theorem bwK_s {Kb m : Nat} : bwK Kb Kb m = Kb := ite_self _
theorem bwK_n {Kt Kb m : Nat} : bwK Kt Kb (m + 1) = Kb := if_neg (by omega)
theorem cpT_1 : cpT t 1 = t 1 := rfl
theorem cpT_2 : cpT t 2 = t 2 := rfl
theorem n4 {i : Nat} (h : i < 1000) : (nI i < 4) = (i < 4) := by rw [show (4 : Int32) = nI 4 from rfl, n_lt (by omega) (by omega)]
theorem l_T_bw (hc : X.1 0 = tgC Kb Ks ep) (hB : kB X Kb b nm s) (hK : Kb < 26) (hY : kY X 43 Kb a t) (hW : kW b s nk nc nn cnt rs re) {c : Nat} (hi : c < nn) {j : Nat} (hj : j < 2147483648) : ∀ m i (y : bhr) (Kt : Nat) (best most : Int32), i + m = 4 →
    xr E (d + 7) m_T_bestWind Q (17, [some (.ref 0), some (.int (nI c)), some (.int (nI j)), some (.int best), some (.int most), some (.int (nI i))], [], sX X 53 Kt y) = Q (.inl (some (.int (bwR b s nk nc nn rs re a t j c i m y best most))), sX X 53 (bwK Kt Kb m) (bwY b s nk nc nn rs re a t j i m y)) := by
  have h6 : nn ≤ 6 := hW.2.2.2.2.2.1
  have hc1 : ∀ K (y : bhr), (sX X 53 K y).1 0 = tgC Kb Ks ep := fun K y => zX_0 hc
  have z3 := fun (Q : xR → Prop) (x : bhr) => f_Bay_passHours (E := E) (d := d) (Q := Q) hB hK (show 42 < 53 by omega) nk nc nn cnt rs re hW j hj x
  have z4 := fun (Q : xR → Prop) (Kt : Nat) (y : bhr) => f_copy (E := E) (d := d + 6) (Q := Q) (Kt := Kt) (y := y) hY
  have y43 := fun (Kt : Nat) (y : bhr) => (show xcl (sX X 53 Kt y) 43 = 0 from xc_of (zX_43 hY).1)
  unfold tgC at hc1
  intro m
  induction m with
  | zero =>
    intro i y Kt best most hi4
    rw [s_T_bestWind_17]
    simp only [s_T_bestWind_19, s_T_bestWind_20, s_T_bestWind_23, s_T_bestWind_86, s_T_bestWind_87, not_false_eq_true, Nat.reduceLT, Nat.reduceAdd, true_and, and_true, if_true, if_false, ite_true, ite_false, xnb_0, xnb_1, xnb_b, xk_v, xk_n, eq_false (show ¬ nI i < 4 by rw [n4 (by omega)]; omega), bwR, bwY, bwK]
  | succ m ih =>
    intro i y Kt best most hi4
    rw [s_T_bestWind_17]
    by_cases p : most < (bwS b s nk nc nn rs re a t j i y).1.1 7 c
    · have p' := p
      unfold bwS at p'
      simp only [s_T_bestWind_19, s_T_bestWind_20, s_T_bestWind_23, s_T_bestWind_24, s_T_bestWind_27, s_T_bestWind_28, s_T_bestWind_31, s_T_bestWind_34, s_T_bestWind_35, s_T_bestWind_38, s_T_bestWind_40, s_T_bestWind_43, s_T_bestWind_44, s_T_bestWind_47, s_T_bestWind_48, s_T_bestWind_51, s_T_bestWind_52, s_T_bestWind_53, s_T_bestWind_56, s_T_bestWind_59, s_T_bestWind_60, s_T_bestWind_61, s_T_bestWind_63, s_T_bestWind_66, s_T_bestWind_67, s_T_bestWind_70, s_T_bestWind_73, s_T_bestWind_74, s_T_bestWind_75, s_T_bestWind_77, s_T_bestWind_79, s_T_bestWind_80, s_T_bestWind_83, s_T_bestWind_86, s_T_bestWind_87, not_false_eq_true, Nat.reduceLT, Nat.reduceAdd, true_and, and_true, if_true, if_false, ite_true, ite_false, xnb_0, xnb_1, xnb_b, xk_v, xk_n, eq_true (show nI i < 4 by rw [n4 (by omega)]; omega), xc_of (hc1 _ _), xf_of (hc1 _ _), xll_8, xlg_8_0, xlg_8_1, xlg_8_2, xlg_8_3, xlg_8_4, xlg_8_5, xlg_8_6, xll_0, xlg_0_0, xlg_0_1, xlg_0_2, xlg_0_3, xlg_0_4, xlg_0_5, xlg_0_6, xlg_0_7, xlg_0_8, xlg_0_9, xlg_0_10, xlg_0_11, xlg_0_12, xlg_0_13, xls_0_0, xls_0_1, xls_0_2, xls_0_3, xls_0_4, xls_0_5, xls_0_6, xls_0_7, xls_0_8, xls_0_9, xls_0_10, xls_0_11, xls_0_12, xls_0_13, zX_C, y43, z4, zX_F, zX_W, cpT_1, cpT_2, z3, zX_l, zX_f, nvp (show c < 6 by omega) (by omega), ncl (show c < 2147483648 by omega), eq_true p', nI_1]
      refine (ih (i + 1) (bwS b s nk nc nn rs re a t j i y) Kb _ _ (by omega)).trans ?_
      simp only [bwR, bwY, if_pos p, bwK_s, bwK_n]
      rfl
    · have p' := p
      unfold bwS at p'
      simp only [s_T_bestWind_19, s_T_bestWind_20, s_T_bestWind_23, s_T_bestWind_24, s_T_bestWind_27, s_T_bestWind_28, s_T_bestWind_31, s_T_bestWind_34, s_T_bestWind_35, s_T_bestWind_38, s_T_bestWind_40, s_T_bestWind_43, s_T_bestWind_44, s_T_bestWind_47, s_T_bestWind_48, s_T_bestWind_51, s_T_bestWind_52, s_T_bestWind_53, s_T_bestWind_56, s_T_bestWind_59, s_T_bestWind_60, s_T_bestWind_61, s_T_bestWind_63, s_T_bestWind_66, s_T_bestWind_67, s_T_bestWind_70, s_T_bestWind_73, s_T_bestWind_74, s_T_bestWind_75, s_T_bestWind_77, s_T_bestWind_79, s_T_bestWind_80, s_T_bestWind_83, s_T_bestWind_86, s_T_bestWind_87, not_false_eq_true, Nat.reduceLT, Nat.reduceAdd, true_and, and_true, if_true, if_false, ite_true, ite_false, xnb_0, xnb_1, xnb_b, xk_v, xk_n, eq_true (show nI i < 4 by rw [n4 (by omega)]; omega), xc_of (hc1 _ _), xf_of (hc1 _ _), xll_8, xlg_8_0, xlg_8_1, xlg_8_2, xlg_8_3, xlg_8_4, xlg_8_5, xlg_8_6, xll_0, xlg_0_0, xlg_0_1, xlg_0_2, xlg_0_3, xlg_0_4, xlg_0_5, xlg_0_6, xlg_0_7, xlg_0_8, xlg_0_9, xlg_0_10, xlg_0_11, xlg_0_12, xlg_0_13, xls_0_0, xls_0_1, xls_0_2, xls_0_3, xls_0_4, xls_0_5, xls_0_6, xls_0_7, xls_0_8, xls_0_9, xls_0_10, xls_0_11, xls_0_12, xls_0_13, zX_C, y43, z4, zX_F, zX_W, cpT_1, cpT_2, z3, zX_l, zX_f, nvp (show c < 6 by omega) (by omega), ncl (show c < 2147483648 by omega), eq_false p', nI_1]
      refine (ih (i + 1) (bwS b s nk nc nn rs re a t j i y) Kb _ _ (by omega)).trans ?_
      simp only [bwR, bwY, if_neg p, bwK_s, bwK_n]
theorem c_T_bestWind_i (hc : X.1 0 = tgC Kb Ks ep) (hB : kB X Kb b nm s) (hK : Kb < 26) (hY : kY X 43 Kb a t) (hW : kW b s nk nc nn cnt rs re) {c : Nat} (hi : c < nn) {j : Nat} (hj : j < 2147483648) (h : ¬ (nI j < 1 ∨ 60 < nI j)) :
    xcall E xprog (d + 8) 104 [.ref 0, .int (nI c), .int (nI j)] (sX X 53 Kt y) Q = Q (.inl (some (.int (bwR b s nk nc nn rs re a t j c 0 4 y 0 (-1)))), sX X 53 Kb (bwY b s nk nc nn rs re a t j 0 4 y)) := by
  have h6 : nn ≤ 6 := hW.2.2.2.2.2.1
  have hc1 : ∀ K (y : bhr), (sX X 53 K y).1 0 = tgC Kb Ks ep := fun K y => zX_0 hc
  have z := fun (Q : xR → Prop) => f_T_needClipper (E := E) (d := d + 6) (Q := Q) (hc1 Kt y) (zX_B hB hK) (nI c)
  have z2 := fun (Q : xR → Prop) => f_T_needHours (E := E) (d := d + 6) (Q := Q) (X := sX X 53 Kt y) (nI j)
  have z5 := fun (Q : xR → Prop) => l_T_bw (E := E) (d := d) (Q := Q) hc hB hK hY hW hi hj 4 0 y Kt 0 (-1) (by omega)
  rw [hW.2.2.2.2.1] at z
  rw [show nI 0 = (0 : Int32) from rfl] at z5
  unfold tgC at hc1
  rw [e_T_bestWind]
  simp only [s_T_bestWind_0, s_T_bestWind_1, s_T_bestWind_2, s_T_bestWind_5, s_T_bestWind_6, s_T_bestWind_9, s_T_bestWind_10, s_T_bestWind_11, s_T_bestWind_12, s_T_bestWind_14, s_T_bestWind_15, xc_of (hc1 _ _), xf_of (hc1 _ _), xll_8, xlg_8_0, xlg_8_1, xlg_8_2, xlg_8_3, xlg_8_4, xlg_8_5, xlg_8_6, not_false_eq_true, Nat.reduceLT, Nat.reduceAdd, true_and, and_true, if_true, if_false, ite_true, ite_false, xnb_0, xnb_1, xnb_b, xk_v, xk_n, z, eq_false (cl_no hi h6), z2, eq_false h, z5]
  rfl
theorem l_M_bw (hM : kM H K g q) (hK : mK K) (hT : kTwo b s g q co ro nk nc nn cnt rs re) (hS : kSt a t co ro nk nn n) {c : Nat} (hi : c < nn) {j : Nat} (hj : j ≤ 60) (hn : n < 900000) : ∀ m i (y : bhr) (best most : Int32) (w f : Nat → Int32) (j6 : Option Value), i + m = 4 → ∃ w' f', ∀ Q,
    xr E (d + 10) m_M_bestWind Q (47, [some (.ref 63), some (.int (nI c)), some (.int (nI j)), some (.int best), some (.int most), some (.int (nI i)), j6], [], mH H K th sz ea tp (nwO nn a t) (va_cpy (nwO nn a t) kp 0 0 51) w f) = Q (.inl (some (.int (bwR b s nk nc nn rs re a t j c i m y best most))), mH H K th sz ea tp (nwO nn a t) (va_cpy (nwO nn a t) kp 0 0 51) w' f') := by
  have h6 := hT.2.1.2.1
  have k6 := hT.1.2.2.2.1
  intro m
  induction m with
  | zero =>
    intro i y best most w f j6 hi4
    refine ⟨w, f, fun Q => ?_⟩
    rw [s_M_bestWind_47]
    simp only [s_M_bestWind_49, s_M_bestWind_50, s_M_bestWind_101, s_M_bestWind_102, not_false_eq_true, Nat.reduceLT, Nat.reduceAdd, true_and, and_true, if_true, if_false, ite_true, ite_false, xnb_0, xnb_1, xnb_b, xk_v, xk_n, eq_false (show ¬ nI i < 4 by rw [n4 (by omega)]; omega), bwR]
  | succ m ih =>
    intro i y best most w f j6 hi4
    obtain ⟨u, v, u1, v1, u2, v2⟩ := hS.2.2
    have hSx : kSt (cpA y.1.1 a) (tri (nI i) (t 1) (t 2)) co ro nk nn n := kSt_cp (by rw [v2]; exact kSt_wf hS (by omega) v1) k6 h6
    obtain ⟨w1, f1, r⟩ := f_M_hoursOn (E := E) (d := d) (th := th) (sz := sz) (ea := ea) (tp := tp) (kp := va_cpy (nwO nn a t) kp 0 0 51) (x := ((cpA y.1.1 a, y.1.2), tri (nI i) (t 1) (t 2))) hM hK hT j (by omega) hSx (by omega) w f
    have e : nwO nn (cpA y.1.1 a) (tri (nI i) (t 1) (t 2)) = nwO nn a (tri (nI i) (t 1) (t 2)) := nwO_cpA h6
    rw [show (((cpA y.1.1 a, y.1.2), tri (nI i) (t 1) (t 2)) : bhr).1.1 = cpA y.1.1 a from rfl, show (((cpA y.1.1 a, y.1.2), tri (nI i) (t 1) (t 2)) : bhr).2 = tri (nI i) (t 1) (t 2) from rfl, e] at r
    rw [show hrI b s nk nc nn rs re j ((cpA y.1.1 a, y.1.2), tri (nI i) (t 1) (t 2)) = bwS b s nk nc nn rs re a t j i y from rfl] at r
    by_cases p : most < (bwS b s nk nc nn rs re a t j i y).1.1 7 c
    · obtain ⟨w2, f2, r2⟩ := ih (i + 1) (bwS b s nk nc nn rs re a t j i y) (nI i) ((bwS b s nk nc nn rs re a t j i y).1.1 7 c) w1 f1 (some (.int ((bwS b s nk nc nn rs re a t j i y).1.1 7 c))) (by omega)
      refine ⟨w2, f2, fun Q => ?_⟩
      rw [s_M_bestWind_47]
      simp only [s_M_bestWind_49, s_M_bestWind_50, s_M_bestWind_53, s_M_bestWind_54, s_M_bestWind_57, s_M_bestWind_58, s_M_bestWind_60, s_M_bestWind_61, s_M_bestWind_62, s_M_bestWind_63, s_M_bestWind_66, s_M_bestWind_67, s_M_bestWind_68, s_M_bestWind_69, s_M_bestWind_72, s_M_bestWind_74, s_M_bestWind_75, s_M_bestWind_78, s_M_bestWind_80, s_M_bestWind_82, s_M_bestWind_85, s_M_bestWind_88, s_M_bestWind_90, s_M_bestWind_91, s_M_bestWind_93, s_M_bestWind_95, s_M_bestWind_98, mF, mC, ml_64, mf_64, mw_63, mw_64, ml_74, mf_74, mw_74, ml_75, mf_75, mw_75, ml_76, mf_76, mw_76, ml_77, mf_77, mw_77, xll_11, xlg_11_0, xlg_11_1, xlg_11_2, xlg_11_3, xlg_11_4, xlg_11_5, xlg_11_6, xlg_11_7, xlg_11_8, xls_11_0, xls_11_1, xls_11_2, xls_11_3, xls_11_4, xls_11_5, xls_11_6, xls_11_7, xls_11_8, not_false_eq_true, Nat.reduceLT, Nat.reduceAdd, true_and, and_true, if_true, if_false, ite_true, ite_false, xnb_0, xnb_1, xnb_b, xk_v, xk_n, eq_true (show nI i < 4 by rw [n4 (by omega)]; omega), show vp_in (1 : Int32) 51 = True from nvp (i := 1) (by omega) (by omega), show (1 : Int32).toNatClampNeg = 1 from rfl, nwu_1, r, c_cl_4 c (show c < 6 by omega), nw_c4 hi, f_M_bringBack (nwO_51 h6), eq_true p, nI_1]
      refine (r2 Q).trans ?_
      simp only [bwR, if_pos p]
    · obtain ⟨w2, f2, r2⟩ := ih (i + 1) (bwS b s nk nc nn rs re a t j i y) best most w1 f1 (some (.int ((bwS b s nk nc nn rs re a t j i y).1.1 7 c))) (by omega)
      refine ⟨w2, f2, fun Q => ?_⟩
      rw [s_M_bestWind_47]
      simp only [s_M_bestWind_49, s_M_bestWind_50, s_M_bestWind_53, s_M_bestWind_54, s_M_bestWind_57, s_M_bestWind_58, s_M_bestWind_60, s_M_bestWind_61, s_M_bestWind_62, s_M_bestWind_63, s_M_bestWind_66, s_M_bestWind_67, s_M_bestWind_68, s_M_bestWind_69, s_M_bestWind_72, s_M_bestWind_74, s_M_bestWind_75, s_M_bestWind_78, s_M_bestWind_80, s_M_bestWind_82, s_M_bestWind_85, s_M_bestWind_88, s_M_bestWind_90, s_M_bestWind_91, s_M_bestWind_93, s_M_bestWind_95, s_M_bestWind_98, mF, mC, ml_64, mf_64, mw_63, mw_64, ml_74, mf_74, mw_74, ml_75, mf_75, mw_75, ml_76, mf_76, mw_76, ml_77, mf_77, mw_77, xll_11, xlg_11_0, xlg_11_1, xlg_11_2, xlg_11_3, xlg_11_4, xlg_11_5, xlg_11_6, xlg_11_7, xlg_11_8, xls_11_0, xls_11_1, xls_11_2, xls_11_3, xls_11_4, xls_11_5, xls_11_6, xls_11_7, xls_11_8, not_false_eq_true, Nat.reduceLT, Nat.reduceAdd, true_and, and_true, if_true, if_false, ite_true, ite_false, xnb_0, xnb_1, xnb_b, xk_v, xk_n, eq_true (show nI i < 4 by rw [n4 (by omega)]; omega), show vp_in (1 : Int32) 51 = True from nvp (i := 1) (by omega) (by omega), show (1 : Int32).toNatClampNeg = 1 from rfl, nwu_1, r, c_cl_4 c (show c < 6 by omega), nw_c4 hi, f_M_bringBack (nwO_51 h6), eq_false p, nI_1]
      refine (r2 Q).trans ?_
      simp only [bwR, if_neg p]
theorem c_M_bestWind_i (hM : kM H K g q) (hK : mK K) (hT : kTwo b s g q co ro nk nc nn cnt rs re) (hS : kSt a t co ro nk nn n) {c : Nat} (hi : c < nn) {j : Nat} (hj : j ≤ 60) (hn : n < 900000) (h : ¬ (nI j < 1 ∨ 60 < nI j)) (y : bhr) (kp w f : Nat → Int32) : ∃ kp' w' f', ∀ Q,
    xcall E xprog (d + 11) 216 [.ref 63, .int (nI c), .int (nI j)] (mH H K th sz ea tp (nwO nn a t) kp w f) Q = Q (.inl (some (.int (bwR b s nk nc nn rs re a t j c 0 4 y 0 (-1)))), mH H K 0 sz ea tp (nwO nn a t) kp' w' f') := by
  have h6 := hT.2.1.2.1
  have hx : (¬ nI j < 1 ∧ ¬ 60 < nI j) := ⟨fun z => h (Or.inl z), fun z => h (Or.inr z)⟩
  obtain ⟨w', f', r⟩ := l_M_bw (E := E) (d := d) (th := 0) (sz := sz) (ea := ea) (tp := tp) (kp := kp) hM hK hT hS hi hj hn 4 0 y 0 (-1) w f none (by omega)
  rw [show nI 0 = (0 : Int32) from rfl] at r
  refine ⟨va_cpy (nwO nn a t) kp 0 0 51, w', f', fun Q => ?_⟩
  rw [e_M_bestWind]
  simp only [s_M_bestWind_0, s_M_bestWind_1, s_M_bestWind_2, s_M_bestWind_5, s_M_bestWind_6, s_M_bestWind_7, s_M_bestWind_10, s_M_bestWind_13, s_M_bestWind_14, s_M_bestWind_15, s_M_bestWind_18, s_M_bestWind_19, s_M_bestWind_20, s_M_bestWind_21, s_M_bestWind_23, s_M_bestWind_26, s_M_bestWind_29, s_M_bestWind_30, s_M_bestWind_31, s_M_bestWind_34, s_M_bestWind_35, s_M_bestWind_36, s_M_bestWind_37, s_M_bestWind_38, s_M_bestWind_40, s_M_bestWind_41, s_M_bestWind_44, s_M_bestWind_45, mF, mC, ml_64, mf_64, mw_63, mw_64, ml_74, mf_74, mw_74, ml_75, mf_75, mw_75, ml_76, mf_76, mw_76, ml_77, mf_77, mw_77, xll_11, xlg_11_0, xlg_11_1, xlg_11_2, xlg_11_3, xlg_11_4, xlg_11_5, xlg_11_6, xlg_11_7, xlg_11_8, xls_11_0, xls_11_1, xls_11_2, xls_11_3, xls_11_4, xls_11_5, xls_11_6, xls_11_7, xls_11_8, nF hM hK, nC hM hK, nl_0 hM hK, nl_1 hM hK, nl_2 hM hK, nl_3 hM hK, nl_4 hM hK, nl_5 hM hK, nl_6 hM hK, nl_7 hM hK, nf_0 hM hK, nf_1 hM hK, nf_2 hM hK, nf_3 hM hK, nf_4 hM hK, nf_5 hM hK, nf_6 hM hK, nf_7 hM hK, xll_9, xlg_9_0, xlg_9_1, xlg_9_2, xlg_9_3, xlg_9_4, xlg_9_5, xlg_9_6, xlg_9_7, xlg_9_8, xlg_9_9, xlg_9_10, xlg_9_11, xlg_9_12, xlg_9_13, not_false_eq_true, Nat.reduceLT, Nat.reduceAdd, true_and, and_true, if_true, if_false, ite_true, ite_false, xnb_0, xnb_1, xnb_b, xk_v, xk_n, z_clip hM hK hT.2.1 (cl_no hi h6), ne_1, f_M_isIn, xb_t hx, f_M_keep]
  exact r Q
theorem st_bestWind (hI : IV n X) (hn : n < 900000) (p v : Int32) : stP E (d + 11) 257 [.ref 0, .int p, .int v, .ref 78] 216 [.ref 63, .int p, .int v] n wI X := by
  obtain ⟨Kb, Ks, K, l, ep, th, T, tp, b, nm, s, a, t, g, q, co, ro, nk, nc, nn, cnt, rs, re, hD⟩ := hI
  obtain ⟨hc, hKK, _, hB, _, hY, ⟨ms, sk, hh, hTT⟩, ⟨Kt, aT, tT, hYT⟩⟩ := id hD.1
  have h2 := hD.2.2.2.2.1
  have hS := hD.2.2.2.2.2
  have hW := h2.2.2.1
  have hR : kRk b s g q nk := h2.1
  have hs : s 4 = nI nn := hW.2.2.2.2.1
  have hk : s 2 = nI nk := hW.1
  have h6 : nn ≤ 6 := hW.2.2.2.2.2.1
  have k6 : nk ≤ 6 := hW.2.1
  have x0 := x0_of hc
  obtain ⟨k0, rfl⟩ := nI_ex hh
  let y : bhr := ((aT, ms, sk, k0), tT)
  have hX : X = sX X 53 Kt y := sH_of hYT hTT
  by_cases h : p < 0 ∨ ¬ p < nI nn
  · exact st_thr0 (c := .inr (14, [])) hD (k := 1) (by decide) (fun Q => x_bestWind_14 p v x0 (fun Q => c_T_bestWind_1 (d := d + 8) hc hB hs h)) (fun H kp wc sk hM hK => ⟨kp, wc, sk, fun Q => c_M_bestWind_1 (d := d + 8) hM hK h2.2.1 h⟩) (Nat.le_refl n)
  by_cases h3 : v < 1 ∨ 60 < v
  · exact st_thr0 (c := .inr (13, [])) hD (k := 2) (by decide) (fun Q => x_bestWind_13 p v x0 (fun Q => c_T_bestWind_2 (d := d + 8) hc hB hs h h3)) (fun H kp wc sk hM hK => ⟨kp, wc, sk, fun Q => c_M_bestWind_2 (d := d + 8) hM hK h2.2.1 h h3⟩) (Nat.le_refl n)
  obtain ⟨i, hi, rfl⟩ := cl_ex h6 h
  obtain ⟨j, j1, j2, rfl⟩ := in_60 h3
  exact st_ok (X1 := sX X 53 Kb (bwY b s nk nc nn rs re a t j 0 4 y)) hD (ivC_tr hD.1) (fun m h1 _ => sH_o (by omega) m (by omega)) rfl (fun f2 hf Q => w_bestWind (nI i) (nI j) x0 (fun Q => (congrArg (fun Z => xcall E xprog (d + 10) 104 [.ref 0, .int (nI i), .int (nI j)] Z Q) hX).trans (c_T_bestWind_i (d := d + 2) hc hB (by omega) hY hW hi (by omega) h3)) hf)
    (fun H kp wc sk hM hK => c_M_bestWind_i (E := E) (d := d) (th := th) (sz := nI l) (ea := ep) (tp := tp) hM hK h2 hS hi j2 hn h3 y kp wc sk) hS rfl
end BESTW
