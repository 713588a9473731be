/-! ===== what would be ===== -/
section AHEAD
variable {E : xE} {d D n n' Ln Mn : Nat} {Q : xR → Prop} {X X1 H : xH} {Kb Ks Kt K l : Nat} {ep th k v : Int32} {La Ma : List Value} {T : Nat → Nat} {tp : Nat → Int32} {b : Nat → Nat → Int32} {nm : Nat → Int64} {s : Nat → Int32} {a a' : Nat → Nat → Int32} {t t' : Nat → Int32} {g : Nat → Nat → Int32} {q : Nat → Int32} {co ro nk nc nn cnt : Nat} {rs re : Nat → Nat} {nw kp wc sk ms : Nat → Int32} {sz ea h : Int32} {W : Int32 → Int64 → Prop}
variable {x y : bhr}
def cpA (a' a : Nat → Nat → Int32) : Nat → Nat → Int32 := cp2 (cp1 a' a 0 6) a 0 6
def cpT (t : Nat → Int32) : Nat → Int32 := tri (t 0) (t 1) (t 2)
theorem cpA_g {r c : Nat} (hc : c < 6) (hr : r = 0 ∨ r = 2 ∨ (3 ≤ r ∧ r ≤ 8)) : cpA a' a r c = a r c := by
  have e : ∀ (v f : Nat → Int32), fil v 0 6 f c = v c := fun v f => by rw [fil_g, if_pos ⟨Nat.zero_le _, by omega⟩]
  rcases (show r = 0 ∨ r = 2 ∨ r = 3 ∨ r = 4 ∨ r = 5 ∨ r = 6 ∨ r = 7 ∨ r = 8 by omega) with z | z | z | z | z | z | z | z <;> subst z
  · exact e (a 0) (a' 0)
  · exact e (a 2) (a' 2)
  · exact e (a 3) (a' 3)
  · exact e (a 4) (a' 4)
  · exact e (a 5) (a' 5)
  · exact e (a 6) (a' 6)
  · exact e (a 7) (a' 7)
  · exact e (a 8) (a' 8)
theorem nwO_cpA (h6 : nn ≤ 6) : nwO nn (cpA a' a) t = nwO nn a t := by
  funext i
  unfold nwO
  by_cases p : i < 15
  · by_cases p2 : i < 3
    · rcases (show i = 0 ∨ i = 1 ∨ i = 2 by omega) with z | z | z <;> subst z <;> rfl
    · rw [if_neg (by omega), if_neg (by omega), if_neg (by omega), if_pos p, if_neg (by omega), if_neg (by omega), if_neg (by omega), if_pos p, cpA_g (by omega) (by omega)]
  · by_cases p2 : (i - 15) / 6 < nn
    · rw [if_neg (by omega), if_neg (by omega), if_neg (by omega), if_neg p, if_pos p2, if_neg (by omega), if_neg (by omega), if_neg (by omega), if_neg p, if_pos p2, cpA_g (by omega) (by omega)]
    · rw [if_neg (by omega), if_neg (by omega), if_neg (by omega), if_neg p, if_neg p2, if_neg (by omega), if_neg (by omega), if_neg (by omega), if_neg p, if_neg p2]
theorem nwO_cpT : nwO nn a (cpT t) = nwO nn a t := rfl
theorem kSt_cp (h : kSt a t co ro nk nn n) (hk : nk ≤ 6) (h6 : nn ≤ 6) : kSt (cpA a' a) t co ro nk nn n := by
  refine ⟨fun k hk' => ?_, fun c hc => ?_, h.2.2⟩
  · rw [cpA_g (by omega) (by omega)]
    exact h.1 k hk'
  · rw [cpA_g (by omega) (by omega), cpA_g (by omega) (by omega), cpA_g (by omega) (by omega), cpA_g (by omega) (by omega)]
    exact h.2.1 c hc
theorem f_copy (hY : kY X 43 Kb a t) : xcall E xprog (d + 1) 2 [.ref 53, .ref 43] (sX X 53 Kt y) Q = Q (.inl none, sX X 53 Kb ((cpA y.1.1 a, y.1.2), cpT t)) :=
  f_Bay_copy hY (by omega) (by omega)
theorem zX_0 (hc : X.1 0 = tgC Kb Ks ep) : (sX X 53 K y).1 0 = tgC Kb Ks ep := z_0t hc
theorem zX_43 (hY : kY X 43 Kb a t) : kY (sX X 53 K y) 43 Kb a t := kY_eq hY (fun m h1 h2 => sH_o (by omega) m (by omega))
theorem zX_B (hB : kB X Kb b nm s) (hK : Kb < 26) : kB (sX X 53 K y) Kb b nm s := sH_kB hB hK (by omega)
theorem zX_F : xfls (sX X 53 K y) 53 0 = [.ref 40, .ref 54, .ref 55, .ref 56, .ref 57, .ref 58, .ref 59, .ref 60, .ref 61, .ref 62, .ref K, .int (y.2 0), .int (y.2 1), .int (y.2 2)] := z53F
theorem zX_C : xcl (sX X 53 K y) 53 = 0 := z53C
theorem zX_l : xlenI (sX X 53 K y) 61 = 6 := z53l_7
theorem zX_f : xfnI (sX X 53 K y) 61 = y.1.1 7 := z53f_7
theorem zX_W {u v w : Int32} : xset (sX X 53 K y) 53 (.inr (0, [.ref 40, .ref 54, .ref 55, .ref 56, .ref 57, .ref 58, .ref 59, .ref 60, .ref 61, .ref 62, .ref K, .int u, .int v, .int w])) = sX X 53 K (y.1, tri u v w) := z53W
theorem f_M_keep : xcall E xprog (d + 1) 159 [.ref 63] (mH H K th sz ea tp nw kp wc sk) Q = Q (.inl none, mH H K th sz ea tp nw (va_cpy nw kp 0 0 51) wc sk) := by
  rw [e_M_keep]
  simp only [s_M_keep_0, s_M_keep_1, s_M_keep_4, s_M_keep_5, s_M_keep_6, s_M_keep_9, s_M_keep_10, s_M_keep_12, s_M_keep_15, mF, mC, ml_64, mf_64, mw_63, mw_64, ml_74, mf_74, mw_74, ml_75, mf_75, mw_75, ml_76, mf_76, mw_76, ml_77, mf_77, mw_77, xll_11, xlg_11_0, xlg_11_1, xlg_11_2, xlg_11_3, xlg_11_4, xlg_11_5, xlg_11_6, xlg_11_7, xlg_11_8, xls_11_0, xls_11_1, xls_11_2, xls_11_3, xls_11_4, xls_11_5, xls_11_6, xls_11_7, xls_11_8, not_false_eq_true, Nat.reduceLT, Nat.reduceAdd, true_and, and_true, if_true, if_false, ite_true, ite_false, xnb_0, xnb_1, xnb_b, xk_v, xk_n, Int32.lt_irrefl, show ((51 : Int32) < 0) = False from eq_false (by decide), show (51 : Int32).toNatClampNeg = 51 from rfl, show (0 : Int32).toNatClampNeg = 0 from rfl, show (0 + 51 ≤ 51) = True from eq_true (by decide), show (0 < 51) = True from eq_true (by decide)]
theorem f_M_bringBack {v : Nat → Int32} (h : ∀ i, 51 ≤ i → v i = nw i) : xcall E xprog (d + 1) 160 [.ref 63] (mH H K th sz ea tp nw (va_cpy v kp 0 0 51) wc sk) Q = Q (.inl none, mH H K th sz ea tp v (va_cpy v kp 0 0 51) wc sk) := by
  have e : va_cpy (va_cpy v kp 0 0 51) nw 0 0 51 = v := by
    funext i
    unfold va_cpy
    by_cases p : i < 51
    · rw [if_pos ⟨Nat.zero_le _, by omega⟩, if_pos ⟨Nat.zero_le _, by omega⟩, show 0 + (0 + (i - 0) - 0) = i by omega]
    · rw [if_neg (by omega), h i (by omega)]
  rw [e_M_bringBack]
  simp only [s_M_bringBack_0, s_M_bringBack_1, s_M_bringBack_4, s_M_bringBack_5, s_M_bringBack_6, s_M_bringBack_9, s_M_bringBack_10, s_M_bringBack_12, s_M_bringBack_15, mF, mC, ml_64, mf_64, mw_63, mw_64, ml_74, mf_74, mw_74, ml_75, mf_75, mw_75, ml_76, mf_76, mw_76, ml_77, mf_77, mw_77, xll_11, xlg_11_0, xlg_11_1, xlg_11_2, xlg_11_3, xlg_11_4, xlg_11_5, xlg_11_6, xlg_11_7, xlg_11_8, xls_11_0, xls_11_1, xls_11_2, xls_11_3, xls_11_4, xls_11_5, xls_11_6, xls_11_7, xls_11_8, not_false_eq_true, Nat.reduceLT, Nat.reduceAdd, true_and, and_true, if_true, if_false, ite_true, ite_false, xnb_0, xnb_1, xnb_b, xk_v, xk_n, Int32.lt_irrefl, show ((51 : Int32) < 0) = False from eq_false (by decide), show (51 : Int32).toNatClampNeg = 51 from rfl, show (0 : Int32).toNatClampNeg = 0 from rfl, show (0 + 51 ≤ 51) = True from eq_true (by decide), show (0 < 51) = True from eq_true (by decide), e]
theorem nwO_51 (h6 : nn ≤ 6) {a a' : Nat → Nat → Int32} {t t' : Nat → Int32} : ∀ i, 51 ≤ i → nwO nn a t i = nwO nn a' t' i := fun i hi => by rw [nwO_o h6 i hi, nwO_o h6 i hi]
theorem c_T_pointsBehind_1 (hc : X.1 0 = tgC Kb Ks ep) (hB : kB X Kb b nm s) (hs : s 4 = nI nn) {c v : Int32} (h : c < 0 ∨ ¬ c < nI nn) : xcall E xprog (d + 2) 102 [.ref 0, .int c, .int v] X Q = Q (.inr 14, xnew X (.inr (14, [])) 6) := by
  have z := fun (Q : xR → Prop) => f_T_needClipper (E := E) (d := d) (Q := Q) hc hB c
  rw [hs] at z
  unfold tgC at hc
  rw [e_T_pointsBehind]
  simp only [s_T_pointsBehind_0, s_T_pointsBehind_1, s_T_pointsBehind_2, s_T_pointsBehind_5, s_T_pointsBehind_6, s_T_pointsBehind_9, s_T_pointsBehind_10, s_T_pointsBehind_13, s_T_pointsBehind_14, s_T_pointsBehind_17, s_T_pointsBehind_20, s_T_pointsBehind_21, s_T_pointsBehind_24, s_T_pointsBehind_25, s_T_pointsBehind_28, s_T_pointsBehind_29, s_T_pointsBehind_30, s_T_pointsBehind_33, s_T_pointsBehind_36, s_T_pointsBehind_37, s_T_pointsBehind_38, xc_of hc, not_false_eq_true, Nat.reduceLT, Nat.reduceAdd, true_and, and_true, if_true, if_false, ite_true, ite_false, xnb_0, xnb_1, xnb_b, xk_v, xk_n, z, eq_true h, xk_x (y := m_T_pointsBehind) rfl]
theorem c_T_pointsBehind_2 (hc : X.1 0 = tgC Kb Ks ep) (hB : kB X Kb b nm s) (hs : s 4 = nI nn) {c v : Int32} (h : ¬ (c < 0 ∨ ¬ c < nI nn)) (h2 : v < 1 ∨ 60 < v) : xcall E xprog (d + 2) 102 [.ref 0, .int c, .int v] X Q = Q (.inr 13, xnew X (.inr (13, [])) 6) := by
  have z := fun (Q : xR → Prop) => f_T_needClipper (E := E) (d := d) (Q := Q) hc hB c
  have z2 := fun (Q : xR → Prop) => f_T_needHours (E := E) (d := d) (Q := Q) (X := X) v
  rw [hs] at z
  unfold tgC at hc
  rw [e_T_pointsBehind]
  simp only [s_T_pointsBehind_0, s_T_pointsBehind_1, s_T_pointsBehind_2, s_T_pointsBehind_5, s_T_pointsBehind_6, s_T_pointsBehind_9, s_T_pointsBehind_10, s_T_pointsBehind_13, s_T_pointsBehind_14, s_T_pointsBehind_17, s_T_pointsBehind_20, s_T_pointsBehind_21, s_T_pointsBehind_24, s_T_pointsBehind_25, s_T_pointsBehind_28, s_T_pointsBehind_29, s_T_pointsBehind_30, s_T_pointsBehind_33, s_T_pointsBehind_36, s_T_pointsBehind_37, s_T_pointsBehind_38, xc_of hc, not_false_eq_true, Nat.reduceLT, Nat.reduceAdd, true_and, and_true, if_true, if_false, ite_true, ite_false, xnb_0, xnb_1, xnb_b, xk_v, xk_n, z, eq_false h, z2, eq_true h2, xk_x (y := m_T_pointsBehind) rfl]
theorem c_M_pointsBehind_1 (hM : kM H K g q) (hK : mK K) (hC : kRc b s g q nn rs re) {c v : Int32} (h : c < 0 ∨ ¬ c < nI nn) : xcall E xprog (d + 3) 214 [.ref 63, .int c, .int v] (mH H K th sz ea tp nw kp wc sk) Q = Q (.inl (some (.int 0)), mH H K 1 sz ea tp nw kp wc sk) := by
  rw [e_M_pointsBehind]
  simp only [s_M_pointsBehind_0, s_M_pointsBehind_1, s_M_pointsBehind_2, s_M_pointsBehind_5, s_M_pointsBehind_6, s_M_pointsBehind_7, s_M_pointsBehind_10, s_M_pointsBehind_13, s_M_pointsBehind_14, s_M_pointsBehind_15, s_M_pointsBehind_18, s_M_pointsBehind_19, s_M_pointsBehind_20, s_M_pointsBehind_21, s_M_pointsBehind_23, s_M_pointsBehind_26, s_M_pointsBehind_29, s_M_pointsBehind_30, s_M_pointsBehind_31, s_M_pointsBehind_34, s_M_pointsBehind_35, s_M_pointsBehind_36, s_M_pointsBehind_39, s_M_pointsBehind_40, s_M_pointsBehind_41, s_M_pointsBehind_44, s_M_pointsBehind_45, s_M_pointsBehind_46, s_M_pointsBehind_47, s_M_pointsBehind_50, s_M_pointsBehind_51, s_M_pointsBehind_52, s_M_pointsBehind_55, s_M_pointsBehind_56, mF, mC, ml_64, mf_64, mw_63, mw_64, ml_74, mf_74, mw_74, ml_75, mf_75, mw_75, ml_76, mf_76, mw_76, ml_77, mf_77, mw_77, xll_11, xlg_11_0, xlg_11_1, xlg_11_2, xlg_11_3, xlg_11_4, xlg_11_5, xlg_11_6, xlg_11_7, xlg_11_8, xls_11_0, xls_11_1, xls_11_2, xls_11_3, xls_11_4, xls_11_5, xls_11_6, xls_11_7, xls_11_8, nF hM hK, nC hM hK, nl_0 hM hK, nl_1 hM hK, nl_2 hM hK, nl_3 hM hK, nl_4 hM hK, nl_5 hM hK, nl_6 hM hK, nl_7 hM hK, nf_0 hM hK, nf_1 hM hK, nf_2 hM hK, nf_3 hM hK, nf_4 hM hK, nf_5 hM hK, nf_6 hM hK, nf_7 hM hK, xll_9, xlg_9_0, xlg_9_1, xlg_9_2, xlg_9_3, xlg_9_4, xlg_9_5, xlg_9_6, xlg_9_7, xlg_9_8, xlg_9_9, xlg_9_10, xlg_9_11, xlg_9_12, xlg_9_13, not_false_eq_true, Nat.reduceLT, Nat.reduceAdd, true_and, and_true, if_true, if_false, ite_true, ite_false, xnb_0, xnb_1, xnb_b, xk_v, xk_n, z_clip_o hM hK hC h, e_M_fail, s_M_fail_0, s_M_fail_1, s_M_fail_2, s_M_fail_5, s_M_fail_6]
theorem c_M_pointsBehind_2 (hM : kM H K g q) (hK : mK K) (hC : kRc b s g q nn rs re) {c v : Int32} (h : ¬ (c < 0 ∨ ¬ c < nI nn)) (h2 : v < 1 ∨ 60 < v) : xcall E xprog (d + 3) 214 [.ref 63, .int c, .int v] (mH H K th sz ea tp nw kp wc sk) Q = Q (.inl (some (.int 0)), mH H K 2 sz ea tp nw kp wc sk) := by
  have hx : ¬ (¬ v < 1 ∧ ¬ 60 < v) := fun z => h2.elim z.1 z.2
  rw [e_M_pointsBehind]
  simp only [s_M_pointsBehind_0, s_M_pointsBehind_1, s_M_pointsBehind_2, s_M_pointsBehind_5, s_M_pointsBehind_6, s_M_pointsBehind_7, s_M_pointsBehind_10, s_M_pointsBehind_13, s_M_pointsBehind_14, s_M_pointsBehind_15, s_M_pointsBehind_18, s_M_pointsBehind_19, s_M_pointsBehind_20, s_M_pointsBehind_21, s_M_pointsBehind_23, s_M_pointsBehind_26, s_M_pointsBehind_29, s_M_pointsBehind_30, s_M_pointsBehind_31, s_M_pointsBehind_34, s_M_pointsBehind_35, s_M_pointsBehind_36, s_M_pointsBehind_39, s_M_pointsBehind_40, s_M_pointsBehind_41, s_M_pointsBehind_44, s_M_pointsBehind_45, s_M_pointsBehind_46, s_M_pointsBehind_47, s_M_pointsBehind_50, s_M_pointsBehind_51, s_M_pointsBehind_52, s_M_pointsBehind_55, s_M_pointsBehind_56, mF, mC, ml_64, mf_64, mw_63, mw_64, ml_74, mf_74, mw_74, ml_75, mf_75, mw_75, ml_76, mf_76, mw_76, ml_77, mf_77, mw_77, xll_11, xlg_11_0, xlg_11_1, xlg_11_2, xlg_11_3, xlg_11_4, xlg_11_5, xlg_11_6, xlg_11_7, xlg_11_8, xls_11_0, xls_11_1, xls_11_2, xls_11_3, xls_11_4, xls_11_5, xls_11_6, xls_11_7, xls_11_8, nF hM hK, nC hM hK, nl_0 hM hK, nl_1 hM hK, nl_2 hM hK, nl_3 hM hK, nl_4 hM hK, nl_5 hM hK, nl_6 hM hK, nl_7 hM hK, nf_0 hM hK, nf_1 hM hK, nf_2 hM hK, nf_3 hM hK, nf_4 hM hK, nf_5 hM hK, nf_6 hM hK, nf_7 hM hK, xll_9, xlg_9_0, xlg_9_1, xlg_9_2, xlg_9_3, xlg_9_4, xlg_9_5, xlg_9_6, xlg_9_7, xlg_9_8, xlg_9_9, xlg_9_10, xlg_9_11, xlg_9_12, xlg_9_13, not_false_eq_true, Nat.reduceLT, Nat.reduceAdd, true_and, and_true, if_true, if_false, ite_true, ite_false, xnb_0, xnb_1, xnb_b, xk_v, xk_n, z_clip hM hK hC h, ne_1, f_M_isIn, xb_f hx, e_M_fail, s_M_fail_0, s_M_fail_1, s_M_fail_2, s_M_fail_5, s_M_fail_6]
theorem c_T_bestWind_1 (hc : X.1 0 = tgC Kb Ks ep) (hB : kB X Kb b nm s) (hs : s 4 = nI nn) {c v : Int32} (h : c < 0 ∨ ¬ c < nI nn) : xcall E xprog (d + 2) 104 [.ref 0, .int c, .int v] X Q = Q (.inr 14, xnew X (.inr (14, [])) 6) := by
  have z := fun (Q : xR → Prop) => f_T_needClipper (E := E) (d := d) (Q := Q) hc hB c
  rw [hs] at z
  unfold tgC at hc
  rw [e_T_bestWind]
  simp only [s_T_bestWind_0, s_T_bestWind_1, s_T_bestWind_2, s_T_bestWind_5, s_T_bestWind_6, s_T_bestWind_9, s_T_bestWind_10, s_T_bestWind_11, s_T_bestWind_12, s_T_bestWind_14, s_T_bestWind_15, s_T_bestWind_19, s_T_bestWind_20, s_T_bestWind_23, s_T_bestWind_24, s_T_bestWind_27, s_T_bestWind_28, s_T_bestWind_31, s_T_bestWind_34, s_T_bestWind_35, s_T_bestWind_38, s_T_bestWind_40, s_T_bestWind_43, s_T_bestWind_44, s_T_bestWind_47, s_T_bestWind_48, s_T_bestWind_51, s_T_bestWind_52, s_T_bestWind_53, s_T_bestWind_56, s_T_bestWind_59, s_T_bestWind_60, s_T_bestWind_61, s_T_bestWind_63, s_T_bestWind_66, s_T_bestWind_67, s_T_bestWind_70, s_T_bestWind_73, s_T_bestWind_74, s_T_bestWind_75, s_T_bestWind_77, s_T_bestWind_79, s_T_bestWind_80, s_T_bestWind_83, s_T_bestWind_86, s_T_bestWind_87, xc_of hc, not_false_eq_true, Nat.reduceLT, Nat.reduceAdd, true_and, and_true, if_true, if_false, ite_true, ite_false, xnb_0, xnb_1, xnb_b, xk_v, xk_n, z, eq_true h, xk_x (y := m_T_bestWind) rfl]
theorem c_T_bestWind_2 (hc : X.1 0 = tgC Kb Ks ep) (hB : kB X Kb b nm s) (hs : s 4 = nI nn) {c v : Int32} (h : ¬ (c < 0 ∨ ¬ c < nI nn)) (h2 : v < 1 ∨ 60 < v) : xcall E xprog (d + 2) 104 [.ref 0, .int c, .int v] X Q = Q (.inr 13, xnew X (.inr (13, [])) 6) := by
  have z := fun (Q : xR → Prop) => f_T_needClipper (E := E) (d := d) (Q := Q) hc hB c
  have z2 := fun (Q : xR → Prop) => f_T_needHours (E := E) (d := d) (Q := Q) (X := X) v
  rw [hs] at z
  unfold tgC at hc
  rw [e_T_bestWind]
  simp only [s_T_bestWind_0, s_T_bestWind_1, s_T_bestWind_2, s_T_bestWind_5, s_T_bestWind_6, s_T_bestWind_9, s_T_bestWind_10, s_T_bestWind_11, s_T_bestWind_12, s_T_bestWind_14, s_T_bestWind_15, s_T_bestWind_19, s_T_bestWind_20, s_T_bestWind_23, s_T_bestWind_24, s_T_bestWind_27, s_T_bestWind_28, s_T_bestWind_31, s_T_bestWind_34, s_T_bestWind_35, s_T_bestWind_38, s_T_bestWind_40, s_T_bestWind_43, s_T_bestWind_44, s_T_bestWind_47, s_T_bestWind_48, s_T_bestWind_51, s_T_bestWind_52, s_T_bestWind_53, s_T_bestWind_56, s_T_bestWind_59, s_T_bestWind_60, s_T_bestWind_61, s_T_bestWind_63, s_T_bestWind_66, s_T_bestWind_67, s_T_bestWind_70, s_T_bestWind_73, s_T_bestWind_74, s_T_bestWind_75, s_T_bestWind_77, s_T_bestWind_79, s_T_bestWind_80, s_T_bestWind_83, s_T_bestWind_86, s_T_bestWind_87, xc_of hc, not_false_eq_true, Nat.reduceLT, Nat.reduceAdd, true_and, and_true, if_true, if_false, ite_true, ite_false, xnb_0, xnb_1, xnb_b, xk_v, xk_n, z, eq_false h, z2, eq_true h2, xk_x (y := m_T_bestWind) rfl]
theorem c_M_bestWind_1 (hM : kM H K g q) (hK : mK K) (hC : kRc b s g q nn rs re) {c v : Int32} (h : c < 0 ∨ ¬ c < nI nn) : xcall E xprog (d + 3) 216 [.ref 63, .int c, .int v] (mH H K th sz ea tp nw kp wc sk) Q = Q (.inl (some (.int 0)), mH H K 1 sz ea tp nw kp wc sk) := by
  rw [e_M_bestWind]
  simp only [s_M_bestWind_0, s_M_bestWind_1, s_M_bestWind_2, s_M_bestWind_5, s_M_bestWind_6, s_M_bestWind_7, s_M_bestWind_10, s_M_bestWind_13, s_M_bestWind_14, s_M_bestWind_15, s_M_bestWind_18, s_M_bestWind_19, s_M_bestWind_20, s_M_bestWind_21, s_M_bestWind_23, s_M_bestWind_26, s_M_bestWind_29, s_M_bestWind_30, s_M_bestWind_31, s_M_bestWind_34, s_M_bestWind_35, s_M_bestWind_36, s_M_bestWind_37, s_M_bestWind_38, s_M_bestWind_40, s_M_bestWind_41, s_M_bestWind_44, s_M_bestWind_45, s_M_bestWind_49, s_M_bestWind_50, s_M_bestWind_53, s_M_bestWind_54, s_M_bestWind_57, s_M_bestWind_58, s_M_bestWind_60, s_M_bestWind_61, s_M_bestWind_62, s_M_bestWind_63, s_M_bestWind_66, s_M_bestWind_67, s_M_bestWind_68, s_M_bestWind_69, s_M_bestWind_72, s_M_bestWind_74, s_M_bestWind_75, s_M_bestWind_78, s_M_bestWind_80, s_M_bestWind_82, s_M_bestWind_85, s_M_bestWind_88, s_M_bestWind_90, s_M_bestWind_91, s_M_bestWind_93, s_M_bestWind_95, s_M_bestWind_98, s_M_bestWind_101, s_M_bestWind_102, mF, mC, ml_64, mf_64, mw_63, mw_64, ml_74, mf_74, mw_74, ml_75, mf_75, mw_75, ml_76, mf_76, mw_76, ml_77, mf_77, mw_77, xll_11, xlg_11_0, xlg_11_1, xlg_11_2, xlg_11_3, xlg_11_4, xlg_11_5, xlg_11_6, xlg_11_7, xlg_11_8, xls_11_0, xls_11_1, xls_11_2, xls_11_3, xls_11_4, xls_11_5, xls_11_6, xls_11_7, xls_11_8, nF hM hK, nC hM hK, nl_0 hM hK, nl_1 hM hK, nl_2 hM hK, nl_3 hM hK, nl_4 hM hK, nl_5 hM hK, nl_6 hM hK, nl_7 hM hK, nf_0 hM hK, nf_1 hM hK, nf_2 hM hK, nf_3 hM hK, nf_4 hM hK, nf_5 hM hK, nf_6 hM hK, nf_7 hM hK, xll_9, xlg_9_0, xlg_9_1, xlg_9_2, xlg_9_3, xlg_9_4, xlg_9_5, xlg_9_6, xlg_9_7, xlg_9_8, xlg_9_9, xlg_9_10, xlg_9_11, xlg_9_12, xlg_9_13, not_false_eq_true, Nat.reduceLT, Nat.reduceAdd, true_and, and_true, if_true, if_false, ite_true, ite_false, xnb_0, xnb_1, xnb_b, xk_v, xk_n, z_clip_o hM hK hC h, e_M_fail, s_M_fail_0, s_M_fail_1, s_M_fail_2, s_M_fail_5, s_M_fail_6]
theorem c_M_bestWind_2 (hM : kM H K g q) (hK : mK K) (hC : kRc b s g q nn rs re) {c v : Int32} (h : ¬ (c < 0 ∨ ¬ c < nI nn)) (h2 : v < 1 ∨ 60 < v) : xcall E xprog (d + 3) 216 [.ref 63, .int c, .int v] (mH H K th sz ea tp nw kp wc sk) Q = Q (.inl (some (.int 0)), mH H K 2 sz ea tp nw kp wc sk) := by
  have hx : ¬ (¬ v < 1 ∧ ¬ 60 < v) := fun z => h2.elim z.1 z.2
  rw [e_M_bestWind]
  simp only [s_M_bestWind_0, s_M_bestWind_1, s_M_bestWind_2, s_M_bestWind_5, s_M_bestWind_6, s_M_bestWind_7, s_M_bestWind_10, s_M_bestWind_13, s_M_bestWind_14, s_M_bestWind_15, s_M_bestWind_18, s_M_bestWind_19, s_M_bestWind_20, s_M_bestWind_21, s_M_bestWind_23, s_M_bestWind_26, s_M_bestWind_29, s_M_bestWind_30, s_M_bestWind_31, s_M_bestWind_34, s_M_bestWind_35, s_M_bestWind_36, s_M_bestWind_37, s_M_bestWind_38, s_M_bestWind_40, s_M_bestWind_41, s_M_bestWind_44, s_M_bestWind_45, s_M_bestWind_49, s_M_bestWind_50, s_M_bestWind_53, s_M_bestWind_54, s_M_bestWind_57, s_M_bestWind_58, s_M_bestWind_60, s_M_bestWind_61, s_M_bestWind_62, s_M_bestWind_63, s_M_bestWind_66, s_M_bestWind_67, s_M_bestWind_68, s_M_bestWind_69, s_M_bestWind_72, s_M_bestWind_74, s_M_bestWind_75, s_M_bestWind_78, s_M_bestWind_80, s_M_bestWind_82, s_M_bestWind_85, s_M_bestWind_88, s_M_bestWind_90, s_M_bestWind_91, s_M_bestWind_93, s_M_bestWind_95, s_M_bestWind_98, s_M_bestWind_101, s_M_bestWind_102, mF, mC, ml_64, mf_64, mw_63, mw_64, ml_74, mf_74, mw_74, ml_75, mf_75, mw_75, ml_76, mf_76, mw_76, ml_77, mf_77, mw_77, xll_11, xlg_11_0, xlg_11_1, xlg_11_2, xlg_11_3, xlg_11_4, xlg_11_5, xlg_11_6, xlg_11_7, xlg_11_8, xls_11_0, xls_11_1, xls_11_2, xls_11_3, xls_11_4, xls_11_5, xls_11_6, xls_11_7, xls_11_8, nF hM hK, nC hM hK, nl_0 hM hK, nl_1 hM hK, nl_2 hM hK, nl_3 hM hK, nl_4 hM hK, nl_5 hM hK, nl_6 hM hK, nl_7 hM hK, nf_0 hM hK, nf_1 hM hK, nf_2 hM hK, nf_3 hM hK, nf_4 hM hK, nf_5 hM hK, nf_6 hM hK, nf_7 hM hK, xll_9, xlg_9_0, xlg_9_1, xlg_9_2, xlg_9_3, xlg_9_4, xlg_9_5, xlg_9_6, xlg_9_7, xlg_9_8, xlg_9_9, xlg_9_10, xlg_9_11, xlg_9_12, xlg_9_13, not_false_eq_true, Nat.reduceLT, Nat.reduceAdd, true_and, and_true, if_true, if_false, ite_true, ite_false, xnb_0, xnb_1, xnb_b, xk_v, xk_n, z_clip hM hK hC h, ne_1, f_M_isIn, xb_f hx, e_M_fail, s_M_fail_0, s_M_fail_1, s_M_fail_2, s_M_fail_5, s_M_fail_6]
theorem c_T_pointsBehind_i (hc : X.1 0 = tgC Kb Ks ep) (hB : kB X Kb b nm s) (hK : Kb < 26) (hY : kY X 43 Kb a t) (hW : kW b s nk nc nn cnt rs re) {i : Nat} (hi : i < nn) {j : Nat} (hj : j < 2147483648) (h : ¬ (nI j < 1 ∨ 60 < nI j)) :
    xcall E xprog (d + 8) 102 [.ref 0, .int (nI i), .int (nI j)] (sX X 53 Kt y) Q = Q (.inl (some (.int ((hrI b s nk nc nn rs re j ((cpA y.1.1 a, y.1.2), cpT t)).1.1 7 i))), sX X 53 Kb (hrI b s nk nc nn rs re j ((cpA y.1.1 a, y.1.2), cpT t))) := by
  have h6 : nn ≤ 6 := hW.2.2.2.2.2.1
  have hc1 : ∀ K (y : bhr), (sX X 53 K y).1 0 = tgC Kb Ks ep := fun K y => zX_0 hc
  have z := fun (Q : xR → Prop) => f_T_needClipper (E := E) (d := d + 6) (Q := Q) (hc1 Kt y) (zX_B hB hK) (nI i)
  have z2 := fun (Q : xR → Prop) => f_T_needHours (E := E) (d := d + 6) (Q := Q) (X := sX X 53 Kt y) (nI j)
  have z3 := fun (Q : xR → Prop) (x : bhr) => f_Bay_passHours (E := E) (d := d) (Q := Q) hB hK (show 42 < 53 by omega) nk nc nn cnt rs re hW j hj x
  have z4 := fun (Q : xR → Prop) => f_copy (E := E) (d := d + 6) (Q := Q) (Kt := Kt) (y := y) hY
  have y43 : xcl (sX X 53 Kt y) 43 = 0 := xc_of (zX_43 hY).1
  rw [hW.2.2.2.2.1] at z
  unfold tgC at hc1
  rw [e_T_pointsBehind]
  simp only [s_T_pointsBehind_0, s_T_pointsBehind_1, s_T_pointsBehind_2, s_T_pointsBehind_5, s_T_pointsBehind_6, s_T_pointsBehind_9, s_T_pointsBehind_10, s_T_pointsBehind_13, s_T_pointsBehind_14, s_T_pointsBehind_17, s_T_pointsBehind_20, s_T_pointsBehind_21, s_T_pointsBehind_24, s_T_pointsBehind_25, s_T_pointsBehind_28, s_T_pointsBehind_29, s_T_pointsBehind_30, s_T_pointsBehind_33, s_T_pointsBehind_36, s_T_pointsBehind_37, s_T_pointsBehind_38, xc_of (hc1 _ _), xf_of (hc1 _ _), xll_8, xlg_8_0, xlg_8_1, xlg_8_2, xlg_8_3, xlg_8_4, xlg_8_5, xlg_8_6, xll_0, xlg_0_0, xlg_0_1, xlg_0_2, xlg_0_3, xlg_0_4, xlg_0_5, xlg_0_6, xlg_0_7, xlg_0_8, xlg_0_9, xlg_0_10, xlg_0_11, xlg_0_12, xlg_0_13, not_false_eq_true, Nat.reduceLT, Nat.reduceAdd, true_and, and_true, if_true, if_false, ite_true, ite_false, xnb_0, xnb_1, xnb_b, xk_v, xk_n, z, eq_false (cl_no hi h6), z2, eq_false h, zX_C, y43, z4, z3, zX_F, zX_l, zX_f, nvp (show i < 6 by omega) (by omega), ncl (show i < 2147483648 by omega)]
theorem c_M_pointsBehind_i (hM : kM H K g q) (hK : mK K) (hT : kTwo b s g q co ro nk nc nn cnt rs re) (hS : kSt x.1.1 x.2 co ro nk nn n) {i : Nat} (hi : i < nn) {j : Nat} (hj : j ≤ 60) (hn : n < 900000) (h : ¬ (nI j < 1 ∨ 60 < nI j)) (kp w f : Nat → Int32) : ∃ kp' w' f', ∀ Q,
    xcall E xprog (d + 11) 214 [.ref 63, .int (nI i), .int (nI j)] (mH H K th sz ea tp (nwO nn x.1.1 x.2) kp w f) Q = Q (.inl (some (.int ((hrI b s nk nc nn rs re j x).1.1 7 i))), mH H K 0 sz ea tp (nwO nn x.1.1 x.2) kp' w' f') := by
  have h6 := hT.2.1.2.1
  have hx : (¬ nI j < 1 ∧ ¬ 60 < nI j) := ⟨fun z => h (Or.inl z), fun z => h (Or.inr z)⟩
  obtain ⟨w', f', r⟩ := f_M_hoursOn (E := E) (d := d) (th := 0) (sz := sz) (ea := ea) (tp := tp) (kp := va_cpy (nwO nn x.1.1 x.2) kp 0 0 51) hM hK hT j (by omega) hS (by omega) w f
  refine ⟨va_cpy (nwO nn x.1.1 x.2) kp 0 0 51, w', f', fun Q => ?_⟩
  rw [e_M_pointsBehind]
  simp only [s_M_pointsBehind_0, s_M_pointsBehind_1, s_M_pointsBehind_2, s_M_pointsBehind_5, s_M_pointsBehind_6, s_M_pointsBehind_7, s_M_pointsBehind_10, s_M_pointsBehind_13, s_M_pointsBehind_14, s_M_pointsBehind_15, s_M_pointsBehind_18, s_M_pointsBehind_19, s_M_pointsBehind_20, s_M_pointsBehind_21, s_M_pointsBehind_23, s_M_pointsBehind_26, s_M_pointsBehind_29, s_M_pointsBehind_30, s_M_pointsBehind_31, s_M_pointsBehind_34, s_M_pointsBehind_35, s_M_pointsBehind_36, s_M_pointsBehind_39, s_M_pointsBehind_40, s_M_pointsBehind_41, s_M_pointsBehind_44, s_M_pointsBehind_45, s_M_pointsBehind_46, s_M_pointsBehind_47, s_M_pointsBehind_50, s_M_pointsBehind_51, s_M_pointsBehind_52, s_M_pointsBehind_55, s_M_pointsBehind_56, mF, mC, ml_64, mf_64, mw_63, mw_64, ml_74, mf_74, mw_74, ml_75, mf_75, mw_75, ml_76, mf_76, mw_76, ml_77, mf_77, mw_77, xll_11, xlg_11_0, xlg_11_1, xlg_11_2, xlg_11_3, xlg_11_4, xlg_11_5, xlg_11_6, xlg_11_7, xlg_11_8, xls_11_0, xls_11_1, xls_11_2, xls_11_3, xls_11_4, xls_11_5, xls_11_6, xls_11_7, xls_11_8, nF hM hK, nC hM hK, nl_0 hM hK, nl_1 hM hK, nl_2 hM hK, nl_3 hM hK, nl_4 hM hK, nl_5 hM hK, nl_6 hM hK, nl_7 hM hK, nf_0 hM hK, nf_1 hM hK, nf_2 hM hK, nf_3 hM hK, nf_4 hM hK, nf_5 hM hK, nf_6 hM hK, nf_7 hM hK, xll_9, xlg_9_0, xlg_9_1, xlg_9_2, xlg_9_3, xlg_9_4, xlg_9_5, xlg_9_6, xlg_9_7, xlg_9_8, xlg_9_9, xlg_9_10, xlg_9_11, xlg_9_12, xlg_9_13, not_false_eq_true, Nat.reduceLT, Nat.reduceAdd, true_and, and_true, if_true, if_false, ite_true, ite_false, xnb_0, xnb_1, xnb_b, xk_v, xk_n, z_clip hM hK hT.2.1 (cl_no hi h6), ne_1, f_M_isIn, xb_t hx, f_M_keep, r, c_cl_4 i (show i < 6 by omega), nw_c4 hi, f_M_bringBack (nwO_51 h6)]
theorem st_pointsBehind (hI : IV n X) (hn : n < 900000) (p v : Int32) : stP E (d + 11) 255 [.ref 0, .int p, .int v, .ref 78] 214 [.ref 63, .int p, .int v] n wI X := by
  obtain ⟨Kb, Ks, K, l, ep, th, T, tp, b, nm, s, a, t, g, q, co, ro, nk, nc, nn, cnt, rs, re, hD⟩ := hI
  obtain ⟨hc, hKK, _, hB, _, hY, ⟨ms, sk, hh, hTT⟩, ⟨Kt, aT, tT, hYT⟩⟩ := id hD.1
  have h2 := hD.2.2.2.2.1
  have hS := hD.2.2.2.2.2
  have hW := h2.2.2.1
  have hR : kRk b s g q nk := h2.1
  have hs : s 4 = nI nn := hW.2.2.2.2.1
  have hk : s 2 = nI nk := hW.1
  have h6 : nn ≤ 6 := hW.2.2.2.2.2.1
  have k6 : nk ≤ 6 := hW.2.1
  have x0 := x0_of hc
  obtain ⟨k0, rfl⟩ := nI_ex hh
  let y : bhr := ((aT, ms, sk, k0), tT)
  have hX : X = sX X 53 Kt y := sH_of hYT hTT
  by_cases h : p < 0 ∨ ¬ p < nI nn
  · exact st_thr0 (c := .inr (14, [])) hD (k := 1) (by decide) (fun Q => x_pointsBehind_14 p v x0 (fun Q => c_T_pointsBehind_1 (d := d + 8) hc hB hs h)) (fun H kp wc sk hM hK => ⟨kp, wc, sk, fun Q => c_M_pointsBehind_1 (d := d + 8) hM hK h2.2.1 h⟩) (Nat.le_refl n)
  by_cases h3 : v < 1 ∨ 60 < v
  · exact st_thr0 (c := .inr (13, [])) hD (k := 2) (by decide) (fun Q => x_pointsBehind_13 p v x0 (fun Q => c_T_pointsBehind_2 (d := d + 8) hc hB hs h h3)) (fun H kp wc sk hM hK => ⟨kp, wc, sk, fun Q => c_M_pointsBehind_2 (d := d + 8) hM hK h2.2.1 h h3⟩) (Nat.le_refl n)
  obtain ⟨i, hi, rfl⟩ := cl_ex h6 h
  obtain ⟨j, j1, j2, rfl⟩ := in_60 h3
  have hSx : kSt (cpA aT a) (cpT t) co ro nk nn n := kSt_cp (t := cpT t) ⟨hS.1, hS.2.1, hS.2.2⟩ k6 h6
  exact st_ok (X1 := sX X 53 Kb (hrI b s nk nc nn rs re j ((cpA y.1.1 a, y.1.2), cpT t))) hD (ivC_tr hD.1) (fun m h1 _ => sH_o (by omega) m (by omega)) rfl (fun f2 hf Q => w_pointsBehind (nI i) (nI j) x0 (fun Q => (congrArg (fun Z => xcall E xprog (d + 10) 102 [.ref 0, .int (nI i), .int (nI j)] Z Q) hX).trans (c_T_pointsBehind_i (d := d + 2) hc hB (by omega) hY hW hi (by omega) h3)) hf)
    (fun H kp wc sk hM hK => by
      obtain ⟨kp', w', f', r⟩ := c_M_pointsBehind_i (E := E) (d := d) (th := th) (sz := nI l) (ea := ep) (tp := tp) (x := ((cpA y.1.1 a, y.1.2), cpT t)) hM hK h2 hSx hi j2 hn h3 kp wc sk
      have e : nwO nn (cpA aT a) (cpT t) = nwO nn a t := nwO_cpA h6
      rw [show (((cpA y.1.1 a, y.1.2), cpT t) : bhr).1.1 = cpA aT a from rfl, show (((cpA y.1.1 a, y.1.2), cpT t) : bhr).2 = cpT t from rfl, e] at r
      exact ⟨kp', w', f', r⟩) hS rfl
/-- the first hour of m from h on behind which c has more than u; -1 -/
def huR (b : Nat → Nat → Int32) (s : Nat → Int32) (nk nc nn : Nat) (rs re : Nat → Nat) (c : Nat) (u : Int32) : Nat → Nat → bhr → Int32
  | _, 0, _ => -1
  | h, m + 1, x => if u < (hrC b s nk nc nn rs re x).1.1 7 c then nI h else huR b s nk nc nn rs re c u (h + 1) m (hrC b s nk nc nn rs re x)
def huX (b : Nat → Nat → Int32) (s : Nat → Int32) (nk nc nn : Nat) (rs re : Nat → Nat) (c : Nat) (u : Int32) : Nat → bhr → bhr
  | 0, x => x
  | m + 1, x => if u < (hrC b s nk nc nn rs re x).1.1 7 c then hrC b s nk nc nn rs re x else huX b s nk nc nn rs re c u m (hrC b s nk nc nn rs re x)
theorem saI_7 {c : Nat} (hk : nk ≤ 6) (h0 : s 0 = nI co) (h1 : s 1 = nI ro) (hco : co ≤ 12) (hro : ro ≤ 12) : ∀ m i (p : bst) (n : Nat), i + m ≤ nn → kSt p.1 t co ro nk nn n → n + m < 1000000 → ∃ z, z ≤ 30 * m ∧ (saI b t s nk nc rs re i m p).1 7 c = p.1 7 c + nI z := by
  intro m
  induction m with
  | zero =>
    intro i p n hi hS hn
    exact ⟨0, by omega, (Int32.add_zero _).symm⟩
  | succ m ih =>
    intro i p n hi hS hn
    obtain ⟨z, z1, z2⟩ := ih (i + 1) (saC b t s nk nc rs re i p) (n + 1) (by omega) (kSt_sa (by omega) hk (by omega) hS h0 h1 hco hro) (by omega)
    obtain ⟨w, w1, w2⟩ := sa_v (b := b) (s := s) (nk := nk) (nc := nc) (rs := rs) (re := re) (c := i) (p := p) (by omega) hS h0 h1 hco hro
    have e := (sa_1 (b := b) (t := t) (s := s) (nk := nk) (nc := nc) (rs := rs) (re := re) (c := i) (p := p)).2
    show ∃ z, z ≤ 30 * (m + 1) ∧ (saI b t s nk nc rs re (i + 1) m (saC b t s nk nc rs re i p)).1 7 c = p.1 7 c + nI z
    rw [z2, e]
    by_cases r : c = i
    · subst r
      rw [upd_s, w2, Int32.add_assoc, nI_ad]
      exact ⟨w + z, by omega, rfl⟩
    · rw [upd_o r]
      exact ⟨z, by omega, rfl⟩
theorem hr_7 {c : Nat} (hT : kTwo b s g q co ro nk nc nn cnt rs re) (hS : kSt x.1.1 x.2 co ro nk nn n) (hn : n < 999990) : ∃ z, z ≤ 180 ∧ (hrC b s nk nc nn rs re x).1.1 7 c = x.1.1 7 c + nI z := by
  obtain ⟨h1, h2, h3, ⟨e1, e2, e3, e4, e5, e6⟩, _⟩ := id hT
  have h6 := h2.2.1
  obtain ⟨z, z1, z2⟩ := saI_7 (b := b) (t := x.2) (nc := nc) (rs := rs) (re := re) (c := c) h3.2.1 e1 e2 e4 e6 nn 0 (upr x.1.1 1 (fil (x.1.1 0) 0 nk (x.1.1 1)), x.1.2) n (by omega) (kSt_1 hS) (by omega)
  exact ⟨z, by omega, z2⟩
/-- more than now is other than now -/
theorem hr_gt {c : Nat} (hT : kTwo b s g q co ro nk nc nn cnt rs re) (hS : kSt x.1.1 x.2 co ro nk nn n) (hn : n < 999990) (hc : c < nn) : (x.1.1 7 c < (hrC b s nk nc nn rs re x).1.1 7 c) ∨ (hrC b s nk nc nn rs re x).1.1 7 c = x.1.1 7 c := by
  obtain ⟨z, z1, z2⟩ := hr_7 (c := c) hT hS hn
  obtain ⟨p, p1, p2⟩ := pt_of hS (by omega) hc
  rw [z2, p2, nI_ad, n_lt (by omega) (by omega)]
  by_cases r : z = 0
  · right
    rw [r]
    rfl
  · left
    omega
theorem l_T_hup (hc : X.1 0 = tgC Kb Ks ep) (hB : kB X Kb b nm s) (hK : Kb < 26) (hY : kY X 43 Kb a t) (hW : kW b s nk nc nn cnt rs re) {i : Nat} (hi : i < nn) : ∀ m h (x : bhr), h + m = 121 →
    xr E (d + 6) m_T_hoursUntilPoints Q (18, [some (.ref 0), some (.int (nI i)), some (.int (nI h))], [], sX X 53 Kb x) = Q (.inl (some (.int (huR b s nk nc nn rs re i (a 7 i) h m x))), sX X 53 Kb (huX b s nk nc nn rs re i (a 7 i) m x)) := by
  have h6 : nn ≤ 6 := hW.2.2.2.2.2.1
  have hc1 : ∀ K (y : bhr), (sX X 53 K y).1 0 = tgC Kb Ks ep := fun K y => zX_0 hc
  have hF : ∀ y : bhr, xfls (sX X 53 Kb y) 43 0 = _ := fun y => xf_of (zX_43 (K := Kb) (y := y) hY).1
  have hL : ∀ y : bhr, xlenI (sX X 53 Kb y) 51 = 6 := fun y => xIl_of (zX_43 (K := Kb) (y := y) hY).2.2.2.2.2.2.2.2.1
  have hf : ∀ y : bhr, xfnI (sX X 53 Kb y) 51 = a 7 := fun y => xIf_of (zX_43 (K := Kb) (y := y) hY).2.2.2.2.2.2.2.2.1
  unfold tgC at hc1
  intro m
  induction m with
  | zero =>
    intro h x hh
    rw [s_T_hoursUntilPoints_18]
    simp only [s_T_hoursUntilPoints_19, s_T_hoursUntilPoints_21, s_T_hoursUntilPoints_61, s_T_hoursUntilPoints_62, not_false_eq_true, Nat.reduceLT, Nat.reduceAdd, true_and, and_true, if_true, if_false, ite_true, ite_false, xnb_0, xnb_1, xnb_b, xk_v, xk_n, show ((120 : Int32) < nI h) = True from eq_true (by rw [show (120 : Int32) = nI 120 from rfl, n_lt (by omega) (by omega)]; omega), huR, huX]
  | succ m ih =>
    intro h x hh
    have z := fun (Q : xR → Prop) => g_Bay_passHour (E := E) (d := d) (Q := Q) hB hK (show 42 < 53 by omega) nk nc nn cnt rs re hW x
    have e : ((120 : Int32) < nI h) = False := eq_false (by rw [show (120 : Int32) = nI 120 from rfl, n_lt (by omega) (by omega)]; omega)
    rw [s_T_hoursUntilPoints_18]
    by_cases p : a 7 i < (hrC b s nk nc nn rs re x).1.1 7 i
    · simp only [s_T_hoursUntilPoints_19, s_T_hoursUntilPoints_21, s_T_hoursUntilPoints_24, s_T_hoursUntilPoints_25, s_T_hoursUntilPoints_28, s_T_hoursUntilPoints_31, s_T_hoursUntilPoints_32, s_T_hoursUntilPoints_33, s_T_hoursUntilPoints_36, s_T_hoursUntilPoints_39, s_T_hoursUntilPoints_40, s_T_hoursUntilPoints_41, s_T_hoursUntilPoints_42, s_T_hoursUntilPoints_45, s_T_hoursUntilPoints_48, s_T_hoursUntilPoints_49, s_T_hoursUntilPoints_50, s_T_hoursUntilPoints_53, s_T_hoursUntilPoints_54, s_T_hoursUntilPoints_55, s_T_hoursUntilPoints_58, s_T_hoursUntilPoints_61, s_T_hoursUntilPoints_62, not_false_eq_true, Nat.reduceLT, Nat.reduceAdd, true_and, and_true, if_true, if_false, ite_true, ite_false, xnb_0, xnb_1, xnb_b, xk_v, xk_n, e, xc_of (hc1 _ _), xf_of (hc1 _ _), xll_8, xlg_8_0, xlg_8_1, xlg_8_2, xlg_8_3, xlg_8_4, xlg_8_5, xlg_8_6, xll_0, xlg_0_0, xlg_0_1, xlg_0_2, xlg_0_3, xlg_0_4, xlg_0_5, xlg_0_6, xlg_0_7, xlg_0_8, xlg_0_9, xlg_0_10, xlg_0_11, xlg_0_12, xlg_0_13, zX_C, z, zX_F, zX_l, zX_f, hF, hL, hf, nvp (show i < 6 by omega) (by omega), ncl (show i < 2147483648 by omega), eq_true p, huR, huX]
    · simp only [s_T_hoursUntilPoints_19, s_T_hoursUntilPoints_21, s_T_hoursUntilPoints_24, s_T_hoursUntilPoints_25, s_T_hoursUntilPoints_28, s_T_hoursUntilPoints_31, s_T_hoursUntilPoints_32, s_T_hoursUntilPoints_33, s_T_hoursUntilPoints_36, s_T_hoursUntilPoints_39, s_T_hoursUntilPoints_40, s_T_hoursUntilPoints_41, s_T_hoursUntilPoints_42, s_T_hoursUntilPoints_45, s_T_hoursUntilPoints_48, s_T_hoursUntilPoints_49, s_T_hoursUntilPoints_50, s_T_hoursUntilPoints_53, s_T_hoursUntilPoints_54, s_T_hoursUntilPoints_55, s_T_hoursUntilPoints_58, s_T_hoursUntilPoints_61, s_T_hoursUntilPoints_62, not_false_eq_true, Nat.reduceLT, Nat.reduceAdd, true_and, and_true, if_true, if_false, ite_true, ite_false, xnb_0, xnb_1, xnb_b, xk_v, xk_n, e, xc_of (hc1 _ _), xf_of (hc1 _ _), xll_8, xlg_8_0, xlg_8_1, xlg_8_2, xlg_8_3, xlg_8_4, xlg_8_5, xlg_8_6, xll_0, xlg_0_0, xlg_0_1, xlg_0_2, xlg_0_3, xlg_0_4, xlg_0_5, xlg_0_6, xlg_0_7, xlg_0_8, xlg_0_9, xlg_0_10, xlg_0_11, xlg_0_12, xlg_0_13, zX_C, z, zX_F, zX_l, zX_f, hF, hL, hf, nvp (show i < 6 by omega) (by omega), ncl (show i < 2147483648 by omega), eq_false p, nI_1, ih (h + 1) _ (by omega), huR, huX]
theorem c_T_hup_o (hc : X.1 0 = tgC Kb Ks ep) (hB : kB X Kb b nm s) (hs : s 4 = nI nn) {c : Int32} (h : c < 0 ∨ ¬ c < nI nn) : xcall E xprog (d + 2) 103 [.ref 0, .int c] X Q = Q (.inr 14, xnew X (.inr (14, [])) 6) := by
  have z := fun (Q : xR → Prop) => f_T_needClipper (E := E) (d := d) (Q := Q) hc hB c
  rw [hs] at z
  unfold tgC at hc
  rw [e_T_hoursUntilPoints]
  simp only [s_T_hoursUntilPoints_0, s_T_hoursUntilPoints_1, s_T_hoursUntilPoints_2, s_T_hoursUntilPoints_5, xc_of hc, not_false_eq_true, Nat.reduceLT, Nat.reduceAdd, true_and, and_true, if_true, if_false, ite_true, ite_false, xnb_0, xnb_1, xnb_b, xk_v, xk_n, z, eq_true h, xk_x (y := m_T_hoursUntilPoints) rfl]
theorem c_T_hup_i (hc : X.1 0 = tgC Kb Ks ep) (hB : kB X Kb b nm s) (hK : Kb < 26) (hY : kY X 43 Kb a t) (hW : kW b s nk nc nn cnt rs re) {i : Nat} (hi : i < nn) :
    xcall E xprog (d + 7) 103 [.ref 0, .int (nI i)] (sX X 53 Kt y) Q = Q (.inl (some (.int (huR b s nk nc nn rs re i (a 7 i) 1 120 ((cpA y.1.1 a, y.1.2), cpT t)))), sX X 53 Kb (huX b s nk nc nn rs re i (a 7 i) 120 ((cpA y.1.1 a, y.1.2), cpT t))) := by
  have h6 : nn ≤ 6 := hW.2.2.2.2.2.1
  have hc1 : ∀ K (y : bhr), (sX X 53 K y).1 0 = tgC Kb Ks ep := fun K y => zX_0 hc
  have z := fun (Q : xR → Prop) => f_T_needClipper (E := E) (d := d + 5) (Q := Q) (hc1 Kt y) (zX_B hB hK) (nI i)
  have z4 := fun (Q : xR → Prop) => f_copy (E := E) (d := d + 5) (Q := Q) (Kt := Kt) (y := y) hY
  have z5 := fun (Q : xR → Prop) => l_T_hup (E := E) (d := d) (Q := Q) hc hB hK hY hW hi 120 1 ((cpA y.1.1 a, y.1.2), cpT t) (by omega)
  have y43 : xcl (sX X 53 Kt y) 43 = 0 := xc_of (zX_43 hY).1
  rw [hW.2.2.2.2.1] at z
  rw [show nI 1 = (1 : Int32) from rfl] at z5
  unfold tgC at hc1
  rw [e_T_hoursUntilPoints]
  simp only [s_T_hoursUntilPoints_0, s_T_hoursUntilPoints_1, s_T_hoursUntilPoints_2, s_T_hoursUntilPoints_5, s_T_hoursUntilPoints_6, s_T_hoursUntilPoints_9, s_T_hoursUntilPoints_10, s_T_hoursUntilPoints_13, s_T_hoursUntilPoints_16, s_T_hoursUntilPoints_17, xc_of (hc1 _ _), xf_of (hc1 _ _), xll_8, xlg_8_0, xlg_8_1, xlg_8_2, xlg_8_3, xlg_8_4, xlg_8_5, xlg_8_6, not_false_eq_true, Nat.reduceLT, Nat.reduceAdd, true_and, and_true, if_true, if_false, ite_true, ite_false, xnb_0, xnb_1, xnb_b, xk_v, xk_n, z, eq_false (cl_no hi h6), zX_C, y43, z4, z5]
theorem l_M_hup (hM : kM H K g q) (hK : mK K) (hT : kTwo b s g q co ro nk nc nn cnt rs re) {i : Nat} (hi : i < nn) (u : Int32) {v : Nat → Int32} (hv : ∀ i, 51 ≤ i → v i = 0) : ∀ m h (x : bhr) (n : Nat) (w f : Nat → Int32), h + m = 120 → kSt x.1.1 x.2 co ro nk nn n → n + 6 * (m + 1) < 999990 → x.1.1 7 i = u → ∃ w' f', ∀ Q,
    xr E (d + 10) m_M_hoursUntilPoints Q (32, [some (.ref 63), some (.int (nI i)), some (.int u), some (.int (nI h))], [], mH H K th sz ea tp (nwO nn x.1.1 x.2) (va_cpy v kp 0 0 51) w f) = Q (.inl (some (.int (huR b s nk nc nn rs re i u (h + 1) m x))), mH H K th sz ea tp v (va_cpy v kp 0 0 51) w' f') := by
  have h6 := hT.2.1.2.1
  have bb : ∀ (x : bhr) i, 51 ≤ i → v i = nwO nn x.1.1 x.2 i := fun x i hi => by rw [hv i hi, nwO_o h6 i hi]
  intro m
  induction m with
  | zero =>
    intro h x n w f hh hS hn hu
    obtain ⟨w', f', r⟩ := f_M_hoursOn (E := E) (d := d) (th := th) (sz := sz) (ea := ea) (tp := tp) (kp := va_cpy v kp 0 0 51) hM hK hT 1 (by omega) hS (by omega) w f
    rw [show nI 1 = (1 : Int32) from rfl] at r
    refine ⟨w', f', fun Q => ?_⟩
    have e : h = 120 := by omega
    subst e
    rw [s_M_hoursUntilPoints_32]
    simp only [s_M_hoursUntilPoints_33, s_M_hoursUntilPoints_35, s_M_hoursUntilPoints_38, s_M_hoursUntilPoints_39, s_M_hoursUntilPoints_40, s_M_hoursUntilPoints_41, s_M_hoursUntilPoints_44, s_M_hoursUntilPoints_45, s_M_hoursUntilPoints_48, s_M_hoursUntilPoints_49, s_M_hoursUntilPoints_50, s_M_hoursUntilPoints_53, s_M_hoursUntilPoints_56, mF, mC, ml_64, mf_64, mw_63, mw_64, ml_74, mf_74, mw_74, ml_75, mf_75, mw_75, ml_76, mf_76, mw_76, ml_77, mf_77, mw_77, xll_11, xlg_11_0, xlg_11_1, xlg_11_2, xlg_11_3, xlg_11_4, xlg_11_5, xlg_11_6, xlg_11_7, xlg_11_8, xls_11_0, xls_11_1, xls_11_2, xls_11_3, xls_11_4, xls_11_5, xls_11_6, xls_11_7, xls_11_8, not_false_eq_true, Nat.reduceLT, Nat.reduceAdd, true_and, and_true, if_true, if_false, ite_true, ite_false, xnb_0, xnb_1, xnb_b, xk_v, xk_n, show (nI 120 < 121) = True from eq_true (by decide), c_cl_4 i (show i < 6 by omega), nw_c4 hi, hu, r, show nI 120 + 1 = nI 121 from rfl]
    rw [s_M_hoursUntilPoints_32]
    simp only [s_M_hoursUntilPoints_33, s_M_hoursUntilPoints_35, s_M_hoursUntilPoints_59, s_M_hoursUntilPoints_60, s_M_hoursUntilPoints_63, s_M_hoursUntilPoints_64, s_M_hoursUntilPoints_66, s_M_hoursUntilPoints_69, s_M_hoursUntilPoints_70, s_M_hoursUntilPoints_73, s_M_hoursUntilPoints_74, mF, mC, ml_64, mf_64, mw_63, mw_64, ml_74, mf_74, mw_74, ml_75, mf_75, mw_75, ml_76, mf_76, mw_76, ml_77, mf_77, mw_77, xll_11, xlg_11_0, xlg_11_1, xlg_11_2, xlg_11_3, xlg_11_4, xlg_11_5, xlg_11_6, xlg_11_7, xlg_11_8, xls_11_0, xls_11_1, xls_11_2, xls_11_3, xls_11_4, xls_11_5, xls_11_6, xls_11_7, xls_11_8, not_false_eq_true, Nat.reduceLT, Nat.reduceAdd, true_and, and_true, if_true, if_false, ite_true, ite_false, xnb_0, xnb_1, xnb_b, xk_v, xk_n, show (nI 121 < 121) = False from eq_false (by decide), f_M_bringBack (bb _), show ((120 : Int32) < nI 121) = True from eq_true (by decide), huR]
  | succ m ih =>
    intro h x n w f hh hS hn hu
    obtain ⟨w1, f1, r⟩ := f_M_hoursOn (E := E) (d := d) (th := th) (sz := sz) (ea := ea) (tp := tp) (kp := va_cpy v kp 0 0 51) hM hK hT 1 (by omega) hS (by omega) w f
    rw [show nI 1 = (1 : Int32) from rfl] at r
    have e1 : ∀ k, k ≤ 120 → (nI k < 121) = True := fun k hk => eq_true (by rw [show (121 : Int32) = nI 121 from rfl, n_lt (by omega) (by omega)]; omega)
    have e2 : ((120 : Int32) < nI (h + 1)) = False := eq_false (by rw [show (120 : Int32) = nI 120 from rfl, n_lt (by omega) (by omega)]; omega)
    by_cases p : u < (hrC b s nk nc nn rs re x).1.1 7 i
    · have p2 : ¬ (hrC b s nk nc nn rs re x).1.1 7 i = u := fun e => by rw [e] at p; exact Int32.lt_irrefl p
      refine ⟨w1, f1, fun Q => ?_⟩
      rw [s_M_hoursUntilPoints_32]
      simp only [s_M_hoursUntilPoints_33, s_M_hoursUntilPoints_35, s_M_hoursUntilPoints_38, s_M_hoursUntilPoints_39, s_M_hoursUntilPoints_40, s_M_hoursUntilPoints_41, s_M_hoursUntilPoints_44, s_M_hoursUntilPoints_45, s_M_hoursUntilPoints_48, s_M_hoursUntilPoints_49, s_M_hoursUntilPoints_50, s_M_hoursUntilPoints_53, s_M_hoursUntilPoints_56, mF, mC, ml_64, mf_64, mw_63, mw_64, ml_74, mf_74, mw_74, ml_75, mf_75, mw_75, ml_76, mf_76, mw_76, ml_77, mf_77, mw_77, xll_11, xlg_11_0, xlg_11_1, xlg_11_2, xlg_11_3, xlg_11_4, xlg_11_5, xlg_11_6, xlg_11_7, xlg_11_8, xls_11_0, xls_11_1, xls_11_2, xls_11_3, xls_11_4, xls_11_5, xls_11_6, xls_11_7, xls_11_8, not_false_eq_true, Nat.reduceLT, Nat.reduceAdd, true_and, and_true, if_true, if_false, ite_true, ite_false, xnb_0, xnb_1, xnb_b, xk_v, xk_n, e1 h (by omega), c_cl_4 i (show i < 6 by omega), nw_c4 hi, hu, r, nI_1]
      rw [s_M_hoursUntilPoints_32]
      simp only [s_M_hoursUntilPoints_33, s_M_hoursUntilPoints_35, s_M_hoursUntilPoints_38, s_M_hoursUntilPoints_39, s_M_hoursUntilPoints_40, s_M_hoursUntilPoints_41, s_M_hoursUntilPoints_44, s_M_hoursUntilPoints_45, s_M_hoursUntilPoints_59, s_M_hoursUntilPoints_60, s_M_hoursUntilPoints_63, s_M_hoursUntilPoints_64, s_M_hoursUntilPoints_66, s_M_hoursUntilPoints_69, s_M_hoursUntilPoints_70, s_M_hoursUntilPoints_73, s_M_hoursUntilPoints_74, mF, mC, ml_64, mf_64, mw_63, mw_64, ml_74, mf_74, mw_74, ml_75, mf_75, mw_75, ml_76, mf_76, mw_76, ml_77, mf_77, mw_77, xll_11, xlg_11_0, xlg_11_1, xlg_11_2, xlg_11_3, xlg_11_4, xlg_11_5, xlg_11_6, xlg_11_7, xlg_11_8, xls_11_0, xls_11_1, xls_11_2, xls_11_3, xls_11_4, xls_11_5, xls_11_6, xls_11_7, xls_11_8, not_false_eq_true, Nat.reduceLT, Nat.reduceAdd, true_and, and_true, if_true, if_false, ite_true, ite_false, xnb_0, xnb_1, xnb_b, xk_v, xk_n, e1 (h + 1) (by omega), c_cl_4 i (show i < 6 by omega), nw_c4 hi, hrI, eq_false p2, f_M_bringBack (bb _), e2, huR, if_pos p]
    · have p2 : (hrC b s nk nc nn rs re x).1.1 7 i = u := by
        rcases hr_gt hT hS (show n < 999990 by omega) hi with z | z
        · rw [hu] at z
          exact absurd z p
        · rw [z, hu]
      obtain ⟨h1, h2, h3, ⟨e01, e02, e03, e04, e05, e06⟩, _⟩ := id hT
      obtain ⟨w2, f2, r2⟩ := ih (h + 1) (hrC b s nk nc nn rs re x) (n + 6) w1 f1 (by omega) (hr_S h3.2.1 e01 e02 e04 e06 h6 hS (by omega)) (by omega) p2
      refine ⟨w2, f2, fun Q => ?_⟩
      rw [s_M_hoursUntilPoints_32]
      simp only [s_M_hoursUntilPoints_33, s_M_hoursUntilPoints_35, s_M_hoursUntilPoints_38, s_M_hoursUntilPoints_39, s_M_hoursUntilPoints_40, s_M_hoursUntilPoints_41, s_M_hoursUntilPoints_44, s_M_hoursUntilPoints_45, s_M_hoursUntilPoints_48, s_M_hoursUntilPoints_49, s_M_hoursUntilPoints_50, s_M_hoursUntilPoints_53, s_M_hoursUntilPoints_56, mF, mC, ml_64, mf_64, mw_63, mw_64, ml_74, mf_74, mw_74, ml_75, mf_75, mw_75, ml_76, mf_76, mw_76, ml_77, mf_77, mw_77, xll_11, xlg_11_0, xlg_11_1, xlg_11_2, xlg_11_3, xlg_11_4, xlg_11_5, xlg_11_6, xlg_11_7, xlg_11_8, xls_11_0, xls_11_1, xls_11_2, xls_11_3, xls_11_4, xls_11_5, xls_11_6, xls_11_7, xls_11_8, not_false_eq_true, Nat.reduceLT, Nat.reduceAdd, true_and, and_true, if_true, if_false, ite_true, ite_false, xnb_0, xnb_1, xnb_b, xk_v, xk_n, e1 h (by omega), c_cl_4 i (show i < 6 by omega), nw_c4 hi, hu, r, nI_1]
      refine (r2 Q).trans ?_
      simp only [huR, if_neg p]
theorem c_M_hup_o (hM : kM H K g q) (hK : mK K) (hC : kRc b s g q nn rs re) {c : Int32} (h : c < 0 ∨ ¬ c < nI nn) : xcall E xprog (d + 3) 215 [.ref 63, .int c] (mH H K th sz ea tp nw kp wc sk) Q = Q (.inl (some (.int 0)), mH H K 1 sz ea tp nw kp wc sk) := by
  rw [e_M_hoursUntilPoints]
  simp only [s_M_hoursUntilPoints_0, s_M_hoursUntilPoints_1, s_M_hoursUntilPoints_2, s_M_hoursUntilPoints_5, s_M_hoursUntilPoints_6, s_M_hoursUntilPoints_7, s_M_hoursUntilPoints_10, s_M_hoursUntilPoints_13, s_M_hoursUntilPoints_14, s_M_hoursUntilPoints_15, s_M_hoursUntilPoints_18, mF, mC, ml_64, mf_64, mw_63, mw_64, ml_74, mf_74, mw_74, ml_75, mf_75, mw_75, ml_76, mf_76, mw_76, ml_77, mf_77, mw_77, xll_11, xlg_11_0, xlg_11_1, xlg_11_2, xlg_11_3, xlg_11_4, xlg_11_5, xlg_11_6, xlg_11_7, xlg_11_8, xls_11_0, xls_11_1, xls_11_2, xls_11_3, xls_11_4, xls_11_5, xls_11_6, xls_11_7, xls_11_8, nF hM hK, nC hM hK, nl_0 hM hK, nl_1 hM hK, nl_2 hM hK, nl_3 hM hK, nl_4 hM hK, nl_5 hM hK, nl_6 hM hK, nl_7 hM hK, nf_0 hM hK, nf_1 hM hK, nf_2 hM hK, nf_3 hM hK, nf_4 hM hK, nf_5 hM hK, nf_6 hM hK, nf_7 hM hK, xll_9, xlg_9_0, xlg_9_1, xlg_9_2, xlg_9_3, xlg_9_4, xlg_9_5, xlg_9_6, xlg_9_7, xlg_9_8, xlg_9_9, xlg_9_10, xlg_9_11, xlg_9_12, xlg_9_13, not_false_eq_true, Nat.reduceLT, Nat.reduceAdd, true_and, and_true, if_true, if_false, ite_true, ite_false, xnb_0, xnb_1, xnb_b, xk_v, xk_n, z_clip_o hM hK hC h, e_M_fail, s_M_fail_0, s_M_fail_1, s_M_fail_2, s_M_fail_5, s_M_fail_6]
theorem c_M_hup_i (hM : kM H K g q) (hK : mK K) (hT : kTwo b s g q co ro nk nc nn cnt rs re) (hS : kSt x.1.1 x.2 co ro nk nn n) {i : Nat} (hi : i < nn) (hn : n < 900000) (kp w f : Nat → Int32) : ∃ kp' w' f', ∀ Q,
    xcall E xprog (d + 11) 215 [.ref 63, .int (nI i)] (mH H K th sz ea tp (nwO nn x.1.1 x.2) kp w f) Q = Q (.inl (some (.int (huR b s nk nc nn rs re i (x.1.1 7 i) 1 120 x))), mH H K 0 sz ea tp (nwO nn x.1.1 x.2) kp' w' f') := by
  have h6 := hT.2.1.2.1
  obtain ⟨w', f', r⟩ := l_M_hup (E := E) (d := d) (th := 0) (sz := sz) (ea := ea) (tp := tp) (kp := kp) hM hK hT hi (x.1.1 7 i) (v := nwO nn x.1.1 x.2) (nwO_o h6) 120 0 x n w f (by omega) hS (by omega) rfl
  rw [show nI 0 = (0 : Int32) from rfl] at r
  refine ⟨va_cpy (nwO nn x.1.1 x.2) kp 0 0 51, w', f', fun Q => ?_⟩
  rw [e_M_hoursUntilPoints]
  simp only [s_M_hoursUntilPoints_0, s_M_hoursUntilPoints_1, s_M_hoursUntilPoints_2, s_M_hoursUntilPoints_5, s_M_hoursUntilPoints_6, s_M_hoursUntilPoints_7, s_M_hoursUntilPoints_10, s_M_hoursUntilPoints_13, s_M_hoursUntilPoints_14, s_M_hoursUntilPoints_15, s_M_hoursUntilPoints_18, s_M_hoursUntilPoints_19, s_M_hoursUntilPoints_20, s_M_hoursUntilPoints_23, s_M_hoursUntilPoints_24, s_M_hoursUntilPoints_25, s_M_hoursUntilPoints_26, s_M_hoursUntilPoints_29, s_M_hoursUntilPoints_30, s_M_hoursUntilPoints_31, mF, mC, ml_64, mf_64, mw_63, mw_64, ml_74, mf_74, mw_74, ml_75, mf_75, mw_75, ml_76, mf_76, mw_76, ml_77, mf_77, mw_77, xll_11, xlg_11_0, xlg_11_1, xlg_11_2, xlg_11_3, xlg_11_4, xlg_11_5, xlg_11_6, xlg_11_7, xlg_11_8, xls_11_0, xls_11_1, xls_11_2, xls_11_3, xls_11_4, xls_11_5, xls_11_6, xls_11_7, xls_11_8, nF hM hK, nC hM hK, nl_0 hM hK, nl_1 hM hK, nl_2 hM hK, nl_3 hM hK, nl_4 hM hK, nl_5 hM hK, nl_6 hM hK, nl_7 hM hK, nf_0 hM hK, nf_1 hM hK, nf_2 hM hK, nf_3 hM hK, nf_4 hM hK, nf_5 hM hK, nf_6 hM hK, nf_7 hM hK, xll_9, xlg_9_0, xlg_9_1, xlg_9_2, xlg_9_3, xlg_9_4, xlg_9_5, xlg_9_6, xlg_9_7, xlg_9_8, xlg_9_9, xlg_9_10, xlg_9_11, xlg_9_12, xlg_9_13, not_false_eq_true, Nat.reduceLT, Nat.reduceAdd, true_and, and_true, if_true, if_false, ite_true, ite_false, xnb_0, xnb_1, xnb_b, xk_v, xk_n, z_clip hM hK hT.2.1 (cl_no hi h6), ne_1, f_M_keep, c_cl_4 i (show i < 6 by omega), nw_c4 hi]
  exact r Q
theorem st_hoursUntilPoints (hI : IV n X) (hn : n < 900000) (p : Int32) : stP E (d + 11) 256 [.ref 0, .int p, .ref 78] 215 [.ref 63, .int p] n wI X := by
  obtain ⟨Kb, Ks, K, l, ep, th, T, tp, b, nm, s, a, t, g, q, co, ro, nk, nc, nn, cnt, rs, re, hD⟩ := hI
  obtain ⟨hc, hKK, _, hB, _, hY, ⟨ms, sk, hh, hTT⟩, ⟨Kt, aT, tT, hYT⟩⟩ := id hD.1
  have h2 := hD.2.2.2.2.1
  have hS := hD.2.2.2.2.2
  have hW := h2.2.2.1
  have hR : kRk b s g q nk := h2.1
  have hs : s 4 = nI nn := hW.2.2.2.2.1
  have hk : s 2 = nI nk := hW.1
  have h6 : nn ≤ 6 := hW.2.2.2.2.2.1
  have k6 : nk ≤ 6 := hW.2.1
  have x0 := x0_of hc
  obtain ⟨k0, rfl⟩ := nI_ex hh
  let y : bhr := ((aT, ms, sk, k0), tT)
  have hX : X = sX X 53 Kt y := sH_of hYT hTT
  by_cases h : p < 0 ∨ ¬ p < nI nn
  · exact st_thr0 (c := .inr (14, [])) hD (k := 1) (by decide) (fun Q => x_hoursUntilPoints_14 p x0 (fun Q => c_T_hup_o (d := d + 8) hc hB hs h)) (fun H kp wc sk hM hK => ⟨kp, wc, sk, fun Q => c_M_hup_o (d := d + 8) hM hK h2.2.1 h⟩) (Nat.le_refl n)
  obtain ⟨i, hi, rfl⟩ := cl_ex h6 h
  have hSx : kSt (cpA aT a) (cpT t) co ro nk nn n := kSt_cp (t := cpT t) ⟨hS.1, hS.2.1, hS.2.2⟩ k6 h6
  have e7 : cpA aT a 7 i = a 7 i := cpA_g (by omega) (by omega)
  exact st_ok (X1 := sX X 53 Kb (huX b s nk nc nn rs re i (a 7 i) 120 ((cpA y.1.1 a, y.1.2), cpT t))) hD (ivC_tr hD.1) (fun m h1 _ => sH_o (by omega) m (by omega)) rfl (fun f2 hf Q => w_hoursUntilPoints (nI i) x0 (fun Q => (congrArg (fun Z => xcall E xprog (d + 10) 103 [.ref 0, .int (nI i)] Z Q) hX).trans (c_T_hup_i (d := d + 3) hc hB (by omega) hY hW hi)) hf)
    (fun H kp wc sk hM hK => by
      obtain ⟨kp', w', f', r⟩ := c_M_hup_i (E := E) (d := d) (th := th) (sz := nI l) (ea := ep) (tp := tp) (x := ((cpA y.1.1 a, y.1.2), cpT t)) hM hK h2 hSx hi hn kp wc sk
      have e : nwO nn (cpA aT a) (cpT t) = nwO nn a t := nwO_cpA h6
      rw [show (((cpA y.1.1 a, y.1.2), cpT t) : bhr).1.1 = cpA aT a from rfl, show (((cpA y.1.1 a, y.1.2), cpT t) : bhr).2 = cpT t from rfl, e, e7] at r
      exact ⟨kp', w', f', r⟩) hS rfl
end AHEAD
