/-! ===== the model: a clipper's hour, hours (2) ===== -/
section MGOES
variable {E : xE} {d : Nat} {Q : xR → Prop} {H : xH} {K : Nat} {g : Nat → Nat → Int32} {q : Nat → Int32} {th sz ea : Int32} {tp nw kp wc sk : Nat → Int32} {b a : Nat → Nat → Int32} {s t : Nat → Int32} {co ro nk nc nn cnt n : Nat} {rs re : Nat → Nat}
theorem k1_0 : ((1 : Int32) = 0) = False := by decide
theorem n_gt0 {z : Nat} (h : z < 2147483648) : (0 < nI z) = ¬ nI z = 0 := by
  by_cases p : z = 0
  · subst p; exact propext ⟨fun h => absurd h (by decide), fun h => absurd rfl h⟩
  · exact propext ⟨fun _ => nI_ne0 (by omega) h, fun _ => nI_lt (a := 0) (by omega) h⟩
theorem n_30 {l : Nat} (h : l ≤ 30) : (nI l < 30) = ¬ nI l = 30 := by
  by_cases p : l = 30
  · subst p; exact propext ⟨fun h => absurd h (by decide), fun h => absurd rfl h⟩
  · exact propext ⟨fun _ e => p (nI_inj (y := 30) (by omega) (by omega) e), fun _ => nI_lt (b := 30) (by omega) (by omega)⟩
theorem t_M_goes (hM : kM H K g q) (hK : mK K) (hT : kTwo b s g q co ro nk nc nn cnt rs re) (hS : kSt a t co ro nk nn n) {c : Nat} (hc : c < nn) :
    xr E (d + 2) m_M_goes Q (57, [some (.ref 63), some (.int (nI c)), none], [], mH H K th sz ea tp (nwO nn a t) kp wc sk) = Q (.inl none, mH H K th sz ea tp (nwO nn (takC a b nk c) t) kp wc sk) := by
  have k2 : nn ≤ 6 := hT.2.1.2.1
  have k3 : nk ≤ 6 := hT.2.2.1.2.1
  obtain ⟨x, y, l, p, x1, x2, x3, x4, x5, x6, x7, x8⟩ := hS.2.1 c hc
  unfold takC steC
  rw [x5, x6]
  rcases kAt_is (kc := b 2) (kr := b 3) (x := nI x) (y := nI y) nk 0 with h | ⟨j, _, h2, h, _, _⟩
  · simp only [s_M_goes_57, s_M_goes_58, s_M_goes_61, s_M_goes_62, s_M_goes_63, s_M_goes_66, s_M_goes_69, s_M_goes_70, s_M_goes_71, s_M_goes_72, s_M_goes_75, s_M_goes_76, s_M_goes_77, s_M_goes_78, s_M_goes_81, s_M_goes_84, s_M_goes_85, s_M_goes_86, s_M_goes_87, s_M_goes_90, s_M_goes_92, s_M_goes_95, mF, mC, ml_64, mf_64, mw_63, mw_64, ml_74, mf_74, mw_74, ml_75, mf_75, mw_75, ml_76, mf_76, mw_76, ml_77, mf_77, mw_77, xll_11, xlg_11_0, xlg_11_1, xlg_11_2, xlg_11_3, xlg_11_4, xlg_11_5, xlg_11_6, xlg_11_7, xlg_11_8, xls_11_0, xls_11_1, xls_11_2, xls_11_3, xls_11_4, xls_11_5, xls_11_6, xls_11_7, xls_11_8, nF hM hK, nC hM hK, nl_0 hM hK, nl_1 hM hK, nl_2 hM hK, nl_3 hM hK, nl_4 hM hK, nl_5 hM hK, nl_6 hM hK, nl_7 hM hK, nf_0 hM hK, nf_1 hM hK, nf_2 hM hK, nf_3 hM hK, nf_4 hM hK, nf_5 hM hK, nf_6 hM hK, nf_7 hM hK, xll_9, xlg_9_0, xlg_9_1, xlg_9_2, xlg_9_3, xlg_9_4, xlg_9_5, xlg_9_6, xlg_9_7, xlg_9_8, xlg_9_9, xlg_9_10, xlg_9_11, xlg_9_12, xlg_9_13, not_false_eq_true, Nat.reduceLT, Nat.reduceAdd, true_and, and_true, if_true, if_false, ite_true, ite_false, xnb_0, xnb_1, xnb_b, xk_v, xk_n, f_M_cell hM hK hT hc x5 x6, f_MB_kettle hM hK hT x1 x2, h]
  · obtain ⟨z, z1, z2⟩ := hS.1 j (by omega)
    simp only [s_M_goes_57, s_M_goes_58, s_M_goes_61, s_M_goes_62, s_M_goes_63, s_M_goes_66, s_M_goes_69, s_M_goes_70, s_M_goes_71, s_M_goes_72, s_M_goes_75, s_M_goes_76, s_M_goes_77, s_M_goes_78, s_M_goes_81, s_M_goes_84, s_M_goes_85, s_M_goes_86, s_M_goes_87, s_M_goes_90, s_M_goes_92, s_M_goes_95, s_M_goes_96, s_M_goes_97, s_M_goes_98, s_M_goes_99, s_M_goes_101, s_M_goes_102, s_M_goes_103, s_M_goes_104, s_M_goes_107, s_M_goes_109, s_M_goes_110, s_M_goes_113, s_M_goes_116, s_M_goes_117, s_M_goes_118, s_M_goes_119, s_M_goes_120, s_M_goes_123, s_M_goes_124, s_M_goes_125, s_M_goes_126, s_M_goes_127, s_M_goes_128, s_M_goes_129, s_M_goes_132, s_M_goes_133, s_M_goes_134, s_M_goes_137, mF, mC, ml_64, mf_64, mw_63, mw_64, ml_74, mf_74, mw_74, ml_75, mf_75, mw_75, ml_76, mf_76, mw_76, ml_77, mf_77, mw_77, xll_11, xlg_11_0, xlg_11_1, xlg_11_2, xlg_11_3, xlg_11_4, xlg_11_5, xlg_11_6, xlg_11_7, xlg_11_8, xls_11_0, xls_11_1, xls_11_2, xls_11_3, xls_11_4, xls_11_5, xls_11_6, xls_11_7, xls_11_8, nF hM hK, nC hM hK, nl_0 hM hK, nl_1 hM hK, nl_2 hM hK, nl_3 hM hK, nl_4 hM hK, nl_5 hM hK, nl_6 hM hK, nl_7 hM hK, nf_0 hM hK, nf_1 hM hK, nf_2 hM hK, nf_3 hM hK, nf_4 hM hK, nf_5 hM hK, nf_6 hM hK, nf_7 hM hK, xll_9, xlg_9_0, xlg_9_1, xlg_9_2, xlg_9_3, xlg_9_4, xlg_9_5, xlg_9_6, xlg_9_7, xlg_9_8, xlg_9_9, xlg_9_10, xlg_9_11, xlg_9_12, xlg_9_13, not_false_eq_true, Nat.reduceLT, Nat.reduceAdd, true_and, and_true, if_true, if_false, ite_true, ite_false, xnb_0, xnb_1, xnb_b, xk_v, xk_n, f_M_cell hM hK hT hc x5 x6, f_MB_kettle hM hK hT x1 x2, h, nI_m1 (show j < 2147483648 by omega), ncl (show j < 2147483648 by omega), c_ke_0 j (show j < 6 by omega), c_ke_1 j (show j < 6 by omega), c_letKettle_0 j (show j < 6 by omega), c_letKettle_1 j (show j < 6 by omega), c_cl_2 c (show c < 6 by omega), c_let_2 c (show c < 6 by omega), nw_k0 (show j < 6 by omega), nw_k1 (show j < 6 by omega), nwu_k0 (show j < 6 by omega), nwu_k1 (show j < 6 by omega), nw_c2 hc, nwu_c2 hc, u_0_0, u_0_1, u_0_2, u_0_3, u_0_4, u_0_5, u_0_6, u_0_7, u_0_8, u_1_0, u_1_1, u_1_2, u_1_3, u_1_4, u_1_5, u_1_6, u_1_7, u_1_8, u_2_0, u_2_1, u_2_2, u_2_3, u_2_4, u_2_5, u_2_6, u_2_7, u_2_8, u_3_0, u_3_1, u_3_2, u_3_3, u_3_4, u_3_5, u_3_6, u_3_7, u_3_8, u_4_0, u_4_1, u_4_2, u_4_3, u_4_4, u_4_5, u_4_6, u_4_7, u_4_8, u_5_0, u_5_1, u_5_2, u_5_3, u_5_4, u_5_5, u_5_6, u_5_7, u_5_8, u_6_0, u_6_1, u_6_2, u_6_3, u_6_4, u_6_5, u_6_6, u_6_7, u_6_8, u_7_0, u_7_1, u_7_2, u_7_3, u_7_4, u_7_5, u_7_6, u_7_7, u_7_8, u_8_0, u_8_1, u_8_2, u_8_3, u_8_4, u_8_5, u_8_6, u_8_7, u_8_8, z2, n_gt0 (show z < 2147483648 by omega), x7, n_30 x3, tkL]
    by_cases w : nI z = 0
    · rw [if_neg (not_not_intro w), if_pos w]
      simp only [nI_m1 (show j < 2147483648 by omega), if_false]
      by_cases r : nI l = 30
      · rw [if_pos r, if_neg (not_not_intro r)]
      · rw [if_neg r, if_pos r, ncl (show j < 2147483648 by omega)]
    · rw [if_pos w, if_neg w]
      simp only [if_true]
theorem f_M_goes (hM : kM H K g q) (hK : mK K) (hT : kTwo b s g q co ro nk nc nn cnt rs re) {p : bst} (hS : kSt p.1 t co ro nk nn n) (hn : n < 1000000) {c : Nat} (hc : c < nn) (f : Nat → Int32) : ∃ f', ∀ Q,
    xcall E xprog (d + 9) 178 [.ref 63, .int (nI c)] (mH H K th sz ea tp (nwO nn p.1 t) kp wc f) Q = Q (.inl none, mH H K th sz ea tp (nwO nn (saC b t s nk nc rs re c p).1 t) kp wc f') := by
  obtain ⟨h1, h2, h3, ⟨e1, e2, e3, e4, e5, e6⟩, h5, h6, h7, h8, h9, h10⟩ := id hT
  have k2 : nn ≤ 6 := h2.2.1
  have hS1 : kSt (wayR p.1 t c) t co ro nk nn n := kSt_6 hS
  have hS2 : kSt (wayS (wayR p.1 t c) c) t co ro nk nn n := kSt_6 hS1
  obtain ⟨f', hm⟩ := f_M_moves (E := E) (d := d) (th := th) (sz := sz) (ea := ea) (tp := tp) (kp := kp) (wc := wc) hM hK hT hS2 hc p.2.1 p.2.2.1 f
  have e0 : xcall E xprog (d + 9) 178 [.ref 63, .int (nI c)] (mH H K th sz ea tp (nwO nn p.1 t) kp wc f) = fun Q => if wayR p.1 t c 6 c < 10 then xr E (d + 8) m_M_goes Q (57, [some (.ref 63), some (.int (nI c)), none], [], mH H K th sz ea tp (nwO nn (wayR p.1 t c) t) kp wc f) else xr E (d + 8) m_M_goes Q (29, [some (.ref 63), some (.int (nI c)), none], [], mH H K th sz ea tp (nwO nn (wayR p.1 t c) t) kp wc f) := by
    funext Q
    rw [e_M_goes]
    simp only [s_M_goes_0, s_M_goes_1, s_M_goes_2, s_M_goes_3, s_M_goes_4, s_M_goes_5, s_M_goes_6, s_M_goes_9, s_M_goes_10, s_M_goes_11, s_M_goes_14, s_M_goes_15, s_M_goes_18, s_M_goes_19, s_M_goes_20, s_M_goes_21, s_M_goes_24, s_M_goes_26, mF, mC, ml_64, mf_64, mw_63, mw_64, ml_74, mf_74, mw_74, ml_75, mf_75, mw_75, ml_76, mf_76, mw_76, ml_77, mf_77, mw_77, xll_11, xlg_11_0, xlg_11_1, xlg_11_2, xlg_11_3, xlg_11_4, xlg_11_5, xlg_11_6, xlg_11_7, xlg_11_8, xls_11_0, xls_11_1, xls_11_2, xls_11_3, xls_11_4, xls_11_5, xls_11_6, xls_11_7, xls_11_8, not_false_eq_true, Nat.reduceLT, Nat.reduceAdd, true_and, and_true, if_true, if_false, ite_true, ite_false, xnb_0, xnb_1, xnb_b, xk_v, xk_n, c_cl_3 c (show c < 6 by omega), c_let_3 c (show c < 6 by omega), nw_c3 hc, nwu_c3 hc, f_M_speed nn c hc k2]
    rfl
  rw [e0]
  unfold saC
  by_cases w : wayR p.1 t c 6 c < 10
  · refine ⟨f, fun Q => ?_⟩
    rw [if_pos w]
    refine (if_pos w).trans ?_
    exact t_M_goes (d := d + 6) hM hK hT hS1 hc
  · refine ⟨f', fun Q => ?_⟩
    rw [if_neg w]
    refine (if_neg w).trans ?_
    simp only [s_M_goes_29, s_M_goes_30, s_M_goes_31, s_M_goes_32, s_M_goes_33, s_M_goes_34, s_M_goes_35, s_M_goes_38, s_M_goes_40, s_M_goes_41, s_M_goes_44, s_M_goes_45, s_M_goes_46, mF, mC, ml_64, mf_64, mw_63, mw_64, ml_74, mf_74, mw_74, ml_75, mf_75, mw_75, ml_76, mf_76, mw_76, ml_77, mf_77, mw_77, xll_11, xlg_11_0, xlg_11_1, xlg_11_2, xlg_11_3, xlg_11_4, xlg_11_5, xlg_11_6, xlg_11_7, xlg_11_8, xls_11_0, xls_11_1, xls_11_2, xls_11_3, xls_11_4, xls_11_5, xls_11_6, xls_11_7, xls_11_8, not_false_eq_true, Nat.reduceLT, Nat.reduceAdd, true_and, and_true, if_true, if_false, ite_true, ite_false, xnb_0, xnb_1, xnb_b, xk_v, xk_n, c_cl_3 c (show c < 6 by omega), c_let_3 c (show c < 6 by omega), nw_c3 hc, nwu_c3 hc]
    change xcall E xprog (d + 8) 177 [.ref 63, .int (nI c)] (mH H K th sz ea tp (nwO nn (wayS (wayR p.1 t c) c) t) kp wc f) _ = _
    rw [hm]
    change (if movC s (wayS (wayR p.1 t c) c) c (popV (saT b t s nk rs re c p)) = 0 then _ else _) = _
    unfold mvR
    by_cases r : movC s (wayS (wayR p.1 t c) c) c (popV (saT b t s nk rs re c p)) = 0
    · rw [if_pos r, if_pos r]
      simp only [s_M_goes_49, s_M_goes_52, s_M_goes_53, s_M_goes_54, not_false_eq_true, Nat.reduceLT, Nat.reduceAdd, true_and, and_true, if_true, if_false, ite_true, ite_false, xnb_0, xnb_1, xnb_b, xk_v, xk_n]
      exact t_M_goes (d := d + 6) hM hK hT hS2 hc
    · rw [if_neg r, if_neg r]
      have hS3 := kSt_mov hS2 e1 e2 e4 e6 r
      simp only [s_M_goes_49, s_M_goes_52, s_M_goes_53, s_M_goes_54, mF, mC, ml_64, mf_64, mw_63, mw_64, ml_74, mf_74, mw_74, ml_75, mf_75, mw_75, ml_76, mf_76, mw_76, ml_77, mf_77, mw_77, xll_11, xlg_11_0, xlg_11_1, xlg_11_2, xlg_11_3, xlg_11_4, xlg_11_5, xlg_11_6, xlg_11_7, xlg_11_8, xls_11_0, xls_11_1, xls_11_2, xls_11_3, xls_11_4, xls_11_5, xls_11_6, xls_11_7, xls_11_8, not_false_eq_true, Nat.reduceLT, Nat.reduceAdd, true_and, and_true, if_true, if_false, ite_true, ite_false, xnb_0, xnb_1, xnb_b, xk_v, xk_n, k1_0]
      change xcall E xprog (d + 5 + 3) 179 [.ref 63, .int (nI c)] (mH H K th sz ea tp (nwO nn (movR (wayS (wayR p.1 t c) c) c (popV (saT b t s nk rs re c p))) t) kp wc f') _ = _
      rw [f_M_comes hM hK hT hS3 hc]
      simp only [not_false_eq_true, Nat.reduceLT, Nat.reduceAdd, true_and, and_true, if_true, if_false, ite_true, ite_false, xnb_0, xnb_1, xnb_b, xk_v, xk_n]
      exact t_M_goes (d := d + 6) hM hK hT (kSt_win hc hn (kSt_pay hc hS3)) hc
end MGOES
section MHOURS
variable {E : xE} {d : Nat} {Q : xR → Prop} {H : xH} {K : Nat} {g : Nat → Nat → Int32} {q : Nat → Int32} {th sz ea : Int32} {tp nw kp wc sk : Nat → Int32} {b a : Nat → Nat → Int32} {s t : Nat → Int32} {co ro nk nc nn cnt n : Nat} {rs re : Nat → Nat}
theorem l1_M_hoursOn (hM : kM H K g q) (hK : mK K) (hT : kTwo b s g q co ro nk nc nn cnt rs re) (h i1 : Int32) : ∀ m i (w : Nat → Int32), i + m = nk →
    xr E (d + 1) m_M_hoursOn Q (9, [some (.ref 63), some (.int h), some (.int i1), some (.int (nI i))], [], mH H K th sz ea tp (nwO nn a t) kp w sk) =
    xr E (d + 1) m_M_hoursOn Q (38, [some (.ref 63), some (.int h), some (.int i1), some (.int (nI nk))], [], mH H K th sz ea tp (nwO nn a t) kp (fil (a 0) i m w) sk) := by
  have hq : q 2 = nI nk := hT.1.2.2.1
  have k3 : nk ≤ 6 := hT.2.2.1.2.1
  intro m
  induction m with
  | zero =>
    intro i w hi
    have : i = nk := by omega
    subst this
    rw [s_M_hoursOn_9]
    simp only [s_M_hoursOn_10, s_M_hoursOn_11, s_M_hoursOn_14, s_M_hoursOn_17, s_M_hoursOn_20, s_M_hoursOn_21, s_M_hoursOn_24, s_M_hoursOn_25, s_M_hoursOn_26, s_M_hoursOn_27, s_M_hoursOn_28, s_M_hoursOn_31, s_M_hoursOn_32, s_M_hoursOn_35, mF, mC, ml_64, mf_64, mw_63, mw_64, ml_74, mf_74, mw_74, ml_75, mf_75, mw_75, ml_76, mf_76, mw_76, ml_77, mf_77, mw_77, xll_11, xlg_11_0, xlg_11_1, xlg_11_2, xlg_11_3, xlg_11_4, xlg_11_5, xlg_11_6, xlg_11_7, xlg_11_8, xls_11_0, xls_11_1, xls_11_2, xls_11_3, xls_11_4, xls_11_5, xls_11_6, xls_11_7, xls_11_8, nF hM hK, nC hM hK, nl_0 hM hK, nl_1 hM hK, nl_2 hM hK, nl_3 hM hK, nl_4 hM hK, nl_5 hM hK, nl_6 hM hK, nl_7 hM hK, nf_0 hM hK, nf_1 hM hK, nf_2 hM hK, nf_3 hM hK, nf_4 hM hK, nf_5 hM hK, nf_6 hM hK, nf_7 hM hK, xll_9, xlg_9_0, xlg_9_1, xlg_9_2, xlg_9_3, xlg_9_4, xlg_9_5, xlg_9_6, xlg_9_7, xlg_9_8, xlg_9_9, xlg_9_10, xlg_9_11, xlg_9_12, xlg_9_13, not_false_eq_true, Nat.reduceLT, Nat.reduceAdd, true_and, and_true, if_true, if_false, ite_true, ite_false, xnb_0, xnb_1, xnb_b, xk_v, xk_n, hq, nge (Nat.le_refl i) (by omega), fil]
  | succ m ih =>
    intro i w hi
    rw [s_M_hoursOn_9]
    simp only [s_M_hoursOn_10, s_M_hoursOn_11, s_M_hoursOn_14, s_M_hoursOn_17, s_M_hoursOn_20, s_M_hoursOn_21, s_M_hoursOn_24, s_M_hoursOn_25, s_M_hoursOn_26, s_M_hoursOn_27, s_M_hoursOn_28, s_M_hoursOn_31, s_M_hoursOn_32, s_M_hoursOn_35, mF, mC, ml_64, mf_64, mw_63, mw_64, ml_74, mf_74, mw_74, ml_75, mf_75, mw_75, ml_76, mf_76, mw_76, ml_77, mf_77, mw_77, xll_11, xlg_11_0, xlg_11_1, xlg_11_2, xlg_11_3, xlg_11_4, xlg_11_5, xlg_11_6, xlg_11_7, xlg_11_8, xls_11_0, xls_11_1, xls_11_2, xls_11_3, xls_11_4, xls_11_5, xls_11_6, xls_11_7, xls_11_8, nF hM hK, nC hM hK, nl_0 hM hK, nl_1 hM hK, nl_2 hM hK, nl_3 hM hK, nl_4 hM hK, nl_5 hM hK, nl_6 hM hK, nl_7 hM hK, nf_0 hM hK, nf_1 hM hK, nf_2 hM hK, nf_3 hM hK, nf_4 hM hK, nf_5 hM hK, nf_6 hM hK, nf_7 hM hK, xll_9, xlg_9_0, xlg_9_1, xlg_9_2, xlg_9_3, xlg_9_4, xlg_9_5, xlg_9_6, xlg_9_7, xlg_9_8, xlg_9_9, xlg_9_10, xlg_9_11, xlg_9_12, xlg_9_13, not_false_eq_true, Nat.reduceLT, Nat.reduceAdd, true_and, and_true, if_true, if_false, ite_true, ite_false, xnb_0, xnb_1, xnb_b, xk_v, xk_n, hq, nlt (show i < nk by omega) (by omega), nvp (show i < 6 by omega) (by omega), ncl (show i < 2147483648 by omega), c_ke_0 i (show i < 6 by omega), nw_k0 (show i < 6 by omega), nI_1, ih (i + 1) _ (by omega), fil]
theorem l2_M_hoursOn (hM : kM H K g q) (hK : mK K) (hT : kTwo b s g q co ro nk nc nn cnt rs re) (h i1 : Int32) : ∀ m i (p : bst) (f : Nat → Int32) (n : Nat), i + m = nn → kSt p.1 t co ro nk nn n → n + m < 1000000 → ∃ f', ∀ Q,
    xr E (d + 9) m_M_hoursOn Q (40, [some (.ref 63), some (.int h), some (.int i1), some (.int (nI i))], [], mH H K th sz ea tp (nwO nn p.1 t) kp wc f) =
    xr E (d + 9) m_M_hoursOn Q (62, [some (.ref 63), some (.int h), some (.int i1), some (.int (nI nn))], [], mH H K th sz ea tp (nwO nn (saI b t s nk nc rs re i m p).1 t) kp wc f') := by
  obtain ⟨h1, h2, h3, ⟨e1, e2, e3, e4, e5, e6⟩, h5, h6, h7, h8, h9, h10⟩ := id hT
  have hq : q 4 = nI nn := h2.1
  have k2 : nn ≤ 6 := h2.2.1
  intro m
  induction m with
  | zero =>
    intro i p f n hi hS hn
    have : i = nn := by omega
    subst this
    refine ⟨f, fun Q => ?_⟩
    rw [s_M_hoursOn_40]
    simp only [s_M_hoursOn_41, s_M_hoursOn_42, s_M_hoursOn_45, s_M_hoursOn_48, s_M_hoursOn_51, s_M_hoursOn_52, s_M_hoursOn_53, s_M_hoursOn_56, s_M_hoursOn_59, mF, mC, ml_64, mf_64, mw_63, mw_64, ml_74, mf_74, mw_74, ml_75, mf_75, mw_75, ml_76, mf_76, mw_76, ml_77, mf_77, mw_77, xll_11, xlg_11_0, xlg_11_1, xlg_11_2, xlg_11_3, xlg_11_4, xlg_11_5, xlg_11_6, xlg_11_7, xlg_11_8, xls_11_0, xls_11_1, xls_11_2, xls_11_3, xls_11_4, xls_11_5, xls_11_6, xls_11_7, xls_11_8, nF hM hK, nC hM hK, nl_0 hM hK, nl_1 hM hK, nl_2 hM hK, nl_3 hM hK, nl_4 hM hK, nl_5 hM hK, nl_6 hM hK, nl_7 hM hK, nf_0 hM hK, nf_1 hM hK, nf_2 hM hK, nf_3 hM hK, nf_4 hM hK, nf_5 hM hK, nf_6 hM hK, nf_7 hM hK, xll_9, xlg_9_0, xlg_9_1, xlg_9_2, xlg_9_3, xlg_9_4, xlg_9_5, xlg_9_6, xlg_9_7, xlg_9_8, xlg_9_9, xlg_9_10, xlg_9_11, xlg_9_12, xlg_9_13, not_false_eq_true, Nat.reduceLT, Nat.reduceAdd, true_and, and_true, if_true, if_false, ite_true, ite_false, xnb_0, xnb_1, xnb_b, xk_v, xk_n, hq, nge (Nat.le_refl i) (by omega), saI]
  | succ m ih =>
    intro i p f n hi hS hn
    have hc : i < nn := by omega
    obtain ⟨f1, hg⟩ := f_M_goes (E := E) (d := d) (th := th) (sz := sz) (ea := ea) (tp := tp) (kp := kp) (wc := wc) hM hK hT hS (by omega) hc f
    obtain ⟨f2, h2'⟩ := ih (i + 1) (saC b t s nk nc rs re i p) f1 (n + 1) (by omega) (kSt_sa hc h3.2.1 (by omega) hS e1 e2 e4 e6) (by omega)
    refine ⟨f2, fun Q => ?_⟩
    rw [s_M_hoursOn_40]
    simp only [s_M_hoursOn_41, s_M_hoursOn_42, s_M_hoursOn_45, s_M_hoursOn_48, s_M_hoursOn_51, s_M_hoursOn_52, s_M_hoursOn_53, s_M_hoursOn_56, s_M_hoursOn_59, mF, mC, ml_64, mf_64, mw_63, mw_64, ml_74, mf_74, mw_74, ml_75, mf_75, mw_75, ml_76, mf_76, mw_76, ml_77, mf_77, mw_77, xll_11, xlg_11_0, xlg_11_1, xlg_11_2, xlg_11_3, xlg_11_4, xlg_11_5, xlg_11_6, xlg_11_7, xlg_11_8, xls_11_0, xls_11_1, xls_11_2, xls_11_3, xls_11_4, xls_11_5, xls_11_6, xls_11_7, xls_11_8, nF hM hK, nC hM hK, nl_0 hM hK, nl_1 hM hK, nl_2 hM hK, nl_3 hM hK, nl_4 hM hK, nl_5 hM hK, nl_6 hM hK, nl_7 hM hK, nf_0 hM hK, nf_1 hM hK, nf_2 hM hK, nf_3 hM hK, nf_4 hM hK, nf_5 hM hK, nf_6 hM hK, nf_7 hM hK, xll_9, xlg_9_0, xlg_9_1, xlg_9_2, xlg_9_3, xlg_9_4, xlg_9_5, xlg_9_6, xlg_9_7, xlg_9_8, xlg_9_9, xlg_9_10, xlg_9_11, xlg_9_12, xlg_9_13, not_false_eq_true, Nat.reduceLT, Nat.reduceAdd, true_and, and_true, if_true, if_false, ite_true, ite_false, xnb_0, xnb_1, xnb_b, xk_v, xk_n, hq, nlt (show i < nn by omega) (by omega), nI_1, hg, h2', saI]
theorem l3_M_hoursOn (hM : kM H K g q) (hK : mK K) (hT : kTwo b s g q co ro nk nc nn cnt rs re) (h i1 : Int32) (v : Nat → Int32) (hv : ∀ k, k < nk → wc k = v k) : ∀ m i (w : Nat → Int32), i + m = nk →
    xr E (d + 1) m_M_hoursOn Q (64, [some (.ref 63), some (.int h), some (.int i1), some (.int (nI i))], [], mH H K th sz ea tp (nwO nn (upr a 0 w) t) kp wc sk) =
    xr E (d + 1) m_M_hoursOn Q (2, [some (.ref 63), some (.int h), some (.int (i1 + 1)), some (.int (nI nk))], [], mH H K th sz ea tp (nwO nn (upr a 0 (dcr v i m w)) (tri (t 0) (t 1) (t 2 + 1))) kp wc sk) := by
  have hq : q 2 = nI nk := hT.1.2.2.1
  have k3 : nk ≤ 6 := hT.2.2.1.2.1
  intro m
  induction m with
  | zero =>
    intro i w hi
    have : i = nk := by omega
    subst this
    rw [s_M_hoursOn_64]
    simp only [s_M_hoursOn_65, s_M_hoursOn_66, s_M_hoursOn_69, s_M_hoursOn_72, s_M_hoursOn_75, s_M_hoursOn_76, s_M_hoursOn_79, s_M_hoursOn_80, s_M_hoursOn_81, s_M_hoursOn_84, s_M_hoursOn_85, s_M_hoursOn_86, s_M_hoursOn_87, s_M_hoursOn_88, s_M_hoursOn_89, s_M_hoursOn_90, s_M_hoursOn_93, s_M_hoursOn_94, s_M_hoursOn_95, s_M_hoursOn_98, s_M_hoursOn_101, s_M_hoursOn_104, s_M_hoursOn_105, s_M_hoursOn_108, s_M_hoursOn_109, s_M_hoursOn_110, s_M_hoursOn_111, s_M_hoursOn_112, s_M_hoursOn_113, s_M_hoursOn_114, s_M_hoursOn_117, mF, mC, ml_64, mf_64, mw_63, mw_64, ml_74, mf_74, mw_74, ml_75, mf_75, mw_75, ml_76, mf_76, mw_76, ml_77, mf_77, mw_77, xll_11, xlg_11_0, xlg_11_1, xlg_11_2, xlg_11_3, xlg_11_4, xlg_11_5, xlg_11_6, xlg_11_7, xlg_11_8, xls_11_0, xls_11_1, xls_11_2, xls_11_3, xls_11_4, xls_11_5, xls_11_6, xls_11_7, xls_11_8, nF hM hK, nC hM hK, nl_0 hM hK, nl_1 hM hK, nl_2 hM hK, nl_3 hM hK, nl_4 hM hK, nl_5 hM hK, nl_6 hM hK, nl_7 hM hK, nf_0 hM hK, nf_1 hM hK, nf_2 hM hK, nf_3 hM hK, nf_4 hM hK, nf_5 hM hK, nf_6 hM hK, nf_7 hM hK, xll_9, xlg_9_0, xlg_9_1, xlg_9_2, xlg_9_3, xlg_9_4, xlg_9_5, xlg_9_6, xlg_9_7, xlg_9_8, xlg_9_9, xlg_9_10, xlg_9_11, xlg_9_12, xlg_9_13, not_false_eq_true, Nat.reduceLT, Nat.reduceAdd, true_and, and_true, if_true, if_false, ite_true, ite_false, xnb_0, xnb_1, xnb_b, xk_v, xk_n, hq, nge (Nat.le_refl i) (by omega), kv_0, kc_0, nw_0, nwu_0, dcr]
  | succ m ih =>
    intro i w hi
    have e := hv i (by omega)
    rw [s_M_hoursOn_64]
    simp only [s_M_hoursOn_65, s_M_hoursOn_66, s_M_hoursOn_69, s_M_hoursOn_72, s_M_hoursOn_75, s_M_hoursOn_76, s_M_hoursOn_79, s_M_hoursOn_80, s_M_hoursOn_81, s_M_hoursOn_84, s_M_hoursOn_85, s_M_hoursOn_86, s_M_hoursOn_87, s_M_hoursOn_88, s_M_hoursOn_89, s_M_hoursOn_90, s_M_hoursOn_93, s_M_hoursOn_94, s_M_hoursOn_95, s_M_hoursOn_98, s_M_hoursOn_101, s_M_hoursOn_104, s_M_hoursOn_105, s_M_hoursOn_108, s_M_hoursOn_109, s_M_hoursOn_110, s_M_hoursOn_111, s_M_hoursOn_112, s_M_hoursOn_113, s_M_hoursOn_114, s_M_hoursOn_117, mF, mC, ml_64, mf_64, mw_63, mw_64, ml_74, mf_74, mw_74, ml_75, mf_75, mw_75, ml_76, mf_76, mw_76, ml_77, mf_77, mw_77, xll_11, xlg_11_0, xlg_11_1, xlg_11_2, xlg_11_3, xlg_11_4, xlg_11_5, xlg_11_6, xlg_11_7, xlg_11_8, xls_11_0, xls_11_1, xls_11_2, xls_11_3, xls_11_4, xls_11_5, xls_11_6, xls_11_7, xls_11_8, nF hM hK, nC hM hK, nl_0 hM hK, nl_1 hM hK, nl_2 hM hK, nl_3 hM hK, nl_4 hM hK, nl_5 hM hK, nl_6 hM hK, nl_7 hM hK, nf_0 hM hK, nf_1 hM hK, nf_2 hM hK, nf_3 hM hK, nf_4 hM hK, nf_5 hM hK, nf_6 hM hK, nf_7 hM hK, xll_9, xlg_9_0, xlg_9_1, xlg_9_2, xlg_9_3, xlg_9_4, xlg_9_5, xlg_9_6, xlg_9_7, xlg_9_8, xlg_9_9, xlg_9_10, xlg_9_11, xlg_9_12, xlg_9_13, not_false_eq_true, Nat.reduceLT, Nat.reduceAdd, true_and, and_true, if_true, if_false, ite_true, ite_false, xnb_0, xnb_1, xnb_b, xk_v, xk_n, hq, nlt (show i < nk by omega) (by omega), nvp (show i < 6 by omega) (by omega), ncl (show i < 2147483648 by omega), c_ke_0 i (show i < 6 by omega), c_letKettle_0 i (show i < 6 by omega), nw_k0 (show i < 6 by omega), nwu_k0 (show i < 6 by omega), nI_1, u_0_0, u_0_1, u_0_2, u_0_3, u_0_4, u_0_5, u_0_6, u_0_7, u_0_8, u_1_0, u_1_1, u_1_2, u_1_3, u_1_4, u_1_5, u_1_6, u_1_7, u_1_8, u_2_0, u_2_1, u_2_2, u_2_3, u_2_4, u_2_5, u_2_6, u_2_7, u_2_8, u_3_0, u_3_1, u_3_2, u_3_3, u_3_4, u_3_5, u_3_6, u_3_7, u_3_8, u_4_0, u_4_1, u_4_2, u_4_3, u_4_4, u_4_5, u_4_6, u_4_7, u_4_8, u_5_0, u_5_1, u_5_2, u_5_3, u_5_4, u_5_5, u_5_6, u_5_7, u_5_8, u_6_0, u_6_1, u_6_2, u_6_3, u_6_4, u_6_5, u_6_6, u_6_7, u_6_8, u_7_0, u_7_1, u_7_2, u_7_3, u_7_4, u_7_5, u_7_6, u_7_7, u_7_8, u_8_0, u_8_1, u_8_2, u_8_3, u_8_4, u_8_5, u_8_6, u_8_7, u_8_8, upr_upr, ih (i + 1) _ (by omega), e, dcr]
    by_cases p : 0 < v i
    · rw [if_pos p, if_pos p]
    · rw [if_neg p, if_neg p]
theorem saI_1 : ∀ m i (p : bst), (saI b t s nk nc rs re i m p).1 1 = p.1 1
  | 0, _, _ => rfl
  | m + 1, i, p => (saI_1 m (i + 1) _).trans sa_1.1
theorem saI_S (hk : nk ≤ 6) (h0 : s 0 = nI co) (h1 : s 1 = nI ro) (hco : co ≤ 12) (hro : ro ≤ 12) : ∀ m i (p : bst) (n : Nat), i + m ≤ nn → kSt p.1 t co ro nk nn n → n + m < 1000000 → kSt (saI b t s nk nc rs re i m p).1 t co ro nk nn (n + m)
  | 0, _, _, _, _, h, _ => h
  | m + 1, i, p, n, hi, h, hn => by
    have := saI_S hk h0 h1 hco hro m (i + 1) (saC b t s nk nc rs re i p) (n + 1) (by omega) (kSt_sa (by omega) hk (by omega) h h0 h1 hco hro) (by omega)
    rw [show n + 1 + m = n + (m + 1) by omega] at this
    exact this
theorem saI_M : ∀ m i (p : bst), kMid p.1 nk → kMid (saI b t s nk nc rs re i m p).1 nk
  | 0, _, _, h => h
  | m + 1, i, p, h => saI_M m (i + 1) _ (kMid_sa h)
theorem fil_g {v f : Nat → Int32} : ∀ m i j, fil v i m f j = if i ≤ j ∧ j < i + m then v j else f j := by
  intro m
  induction m generalizing f with
  | zero => intro i j; exact (if_neg (by omega)).symm
  | succ m ih =>
    intro i j
    show fil v (i + 1) m (upd f i (v i)) j = _
    rw [ih]
    by_cases p : j = i
    · subst p
      rw [if_neg (by omega), if_pos (by omega), upd_s]
    · by_cases r : i + 1 ≤ j ∧ j < i + 1 + m
      · rw [if_pos r, if_pos (by omega)]
      · rw [if_neg r, if_neg (by omega), upd_o p]
theorem dcr_g {v f : Nat → Int32} : ∀ m i j, dcr v i m f j = if i ≤ j ∧ j < i + m ∧ 0 < v j then f j - 1 else f j := by
  intro m
  induction m generalizing f with
  | zero => intro i j; exact (if_neg (by omega)).symm
  | succ m ih =>
    intro i j
    show dcr v (i + 1) m (if 0 < v i then upd f i (f i - 1) else f) j = _
    rw [ih]
    by_cases p : j = i
    · subst p
      rw [if_neg (by omega)]
      by_cases w : 0 < v j
      · rw [if_pos w, if_pos ⟨by omega, by omega, w⟩, upd_s]
      · rw [if_neg w, if_neg (fun h => w h.2.2)]
    · have e : (if 0 < v i then upd f i (f i - 1) else f) j = f j := by
        split
        · exact upd_o p
        · rfl
      rw [e]
      by_cases r : i + 1 ≤ j ∧ j < i + 1 + m ∧ 0 < v j
      · rw [if_pos r, if_pos ⟨by omega, by omega, r.2.2⟩]
      · rw [if_neg r, if_neg (fun h => r ⟨by omega, by omega, h.2.2⟩)]
/-- an hour keeps things in order -/
theorem hr_S {x : bhr} (hk : nk ≤ 6) (h0 : s 0 = nI co) (h1 : s 1 = nI ro) (hco : co ≤ 12) (hro : ro ≤ 12) (hn6 : nn ≤ 6) (hS : kSt x.1.1 x.2 co ro nk nn n) (hn : n < 999990) : kSt (hrC b s nk nc nn rs re x).1.1 (hrC b s nk nc nn rs re x).2 co ro nk nn (n + 6) := by
  have g1 : kSt (upr x.1.1 1 (fil (x.1.1 0) 0 nk (x.1.1 1))) x.2 co ro nk nn n := hS
  have g2 : kSt (phC b x.2 s nk nc nn rs re x.1).1 x.2 co ro nk nn (n + nn) := saI_S hk h0 h1 hco hro nn 0 (_, x.1.2) n (by omega) g1 (by omega)
  have g3 : kMid (phC b x.2 s nk nc nn rs re x.1).1 nk := saI_M nn 0 (_, x.1.2) (fun k hk' w => by
    have w' : 0 < fil (x.1.1 0) 0 nk (x.1.1 1) k := w
    rw [fil_g, if_pos (by omega)] at w'
    exact w')
  have g4 : (phC b x.2 s nk nc nn rs re x.1).1 1 = fil (x.1.1 0) 0 nk (x.1.1 1) := saI_1 nn 0 _
  refine kSt_le (n := n + nn) ?_ (by omega)
  show kSt (upr (phC b x.2 s nk nc nn rs re x.1).1 0 (dcr ((phC b x.2 s nk nc nn rs re x.1).1 1) 0 nk ((phC b x.2 s nk nc nn rs re x.1).1 0))) (tri (x.2 0) (x.2 1) (x.2 2 + 1)) co ro nk nn (n + nn)
  refine kSt_0 (kSt_t g2) (fun k hk' => ?_)
  obtain ⟨z, z1, z2⟩ := g2.1 k hk'
  rw [dcr_g]
  by_cases w : 0 ≤ k ∧ k < 0 + nk ∧ 0 < (phC b x.2 s nk nc nn rs re x.1).1 1 k
  · rw [if_pos w]
    have w2 := g3 k hk' w.2.2
    rw [z2] at w2 ⊢
    have w3 : 1 ≤ z := Decidable.byContradiction fun h => by
      have : z = 0 := by omega
      subst this
      exact absurd w2 (by decide)
    rw [nI_m z w3 (by omega)]
    exact ⟨z - 1, by omega, rfl⟩
  · rw [if_neg w]
    exact ⟨z, z1, z2⟩
theorem h_M_hoursOn (hM : kM H K g q) (hK : mK K) (hT : kTwo b s g q co ro nk nc nn cnt rs re) (h i1 : Int32) {x : bhr} (hS : kSt x.1.1 x.2 co ro nk nn n) (hn : n < 999990) (w f : Nat → Int32) : ∃ w' f', ∀ Q,
    xr E (d + 9) m_M_hoursOn Q (9, [some (.ref 63), some (.int h), some (.int i1), some (.int (nI 0))], [], mH H K th sz ea tp (nwO nn x.1.1 x.2) kp w f) =
    xr E (d + 9) m_M_hoursOn Q (2, [some (.ref 63), some (.int h), some (.int (i1 + 1)), some (.int (nI nk))], [], mH H K th sz ea tp (nwO nn (hrC b s nk nc nn rs re x).1.1 (hrC b s nk nc nn rs re x).2) kp w' f') := by
  have k2 : nn ≤ 6 := hT.2.1.2.1
  have k3 : nk ≤ 6 := hT.2.2.1.2.1
  have g1 : kSt (upr x.1.1 1 (fil (x.1.1 0) 0 nk (x.1.1 1))) x.2 co ro nk nn n := hS
  obtain ⟨f', h2⟩ := l2_M_hoursOn (E := E) (d := d) (th := th) (sz := sz) (ea := ea) (tp := tp) (kp := kp) (wc := fil (x.1.1 0) 0 nk w) hM hK hT h i1 nn 0 (upr x.1.1 1 (fil (x.1.1 0) 0 nk (x.1.1 1)), x.1.2) f n (by omega) g1 (by omega)
  refine ⟨fil (x.1.1 0) 0 nk w, f', fun Q => ?_⟩
  rw [l1_M_hoursOn (d := d + 8) hM hK hT h i1 nk 0 w (by omega)]
  simp only [s_M_hoursOn_38, s_M_hoursOn_39]
  have e1 : nwO nn (upr x.1.1 1 (fil (x.1.1 0) 0 nk (x.1.1 1))) x.2 = nwO nn x.1.1 x.2 := by
    funext i
    unfold nwO upr
    repeat' split
    all_goals first | rfl | omega
  rw [← e1]
  refine (h2 Q).trans ?_
  simp only [s_M_hoursOn_62, s_M_hoursOn_63]
  have g4 : (phC b x.2 s nk nc nn rs re x.1).1 1 = fil (x.1.1 0) 0 nk (x.1.1 1) := saI_1 nn 0 _
  change xr E (d + 8 + 1) m_M_hoursOn Q (64, [some (.ref 63), some (.int h), some (.int i1), some (.int (nI 0))], [], mH H K th sz ea tp (nwO nn (phC b x.2 s nk nc nn rs re x.1).1 x.2) kp (fil (x.1.1 0) 0 nk w) f') = _
  rw [← upr_id (a := (phC b x.2 s nk nc nn rs re x.1).1) (r := 0)]
  refine (l3_M_hoursOn (d := d + 8) (t := x.2) hM hK hT h i1 ((phC b x.2 s nk nc nn rs re x.1).1 1) (fun k hk => ?_) nk 0 _ (by omega)).trans rfl
  rw [g4, fil_g, fil_g, if_pos (by omega), if_pos (by omega)]
theorem l_M_hoursOn (hM : kM H K g q) (hK : mK K) (hT : kTwo b s g q co ro nk nc nn cnt rs re) (h : Nat) (hh : h ≤ 200) : ∀ m i (x : bhr) (w f : Nat → Int32) (j3 : Option Value) (n : Nat), i + m = h → kSt x.1.1 x.2 co ro nk nn n → n + 6 * m < 999990 → ∃ w' f', ∀ Q,
    xr E (d + 9) m_M_hoursOn Q (2, [some (.ref 63), some (.int (nI h)), some (.int (nI i)), j3], [], mH H K th sz ea tp (nwO nn x.1.1 x.2) kp w f) =
    Q (.inl none, mH H K th sz ea tp (nwO nn (hrI b s nk nc nn rs re m x).1.1 (hrI b s nk nc nn rs re m x).2) kp w' f') := by
  obtain ⟨h1, h2, h3, ⟨e1, e2, e3, e4, e5, e6⟩, h5, h6, h7, h8, h9, h10⟩ := id hT
  intro m
  induction m with
  | zero =>
    intro i x w f j3 n hi hS hn
    have : i = h := by omega
    subst this
    refine ⟨w, f, fun Q => ?_⟩
    rw [s_M_hoursOn_2]
    simp only [s_M_hoursOn_3, s_M_hoursOn_4, s_M_hoursOn_120, not_false_eq_true, Nat.reduceLT, Nat.reduceAdd, true_and, and_true, if_true, if_false, ite_true, ite_false, xnb_0, xnb_1, xnb_b, xk_v, xk_n, nge (Nat.le_refl i) (by omega), hrI]
  | succ m ih =>
    intro i x w f j3 n hi hS hn
    obtain ⟨w1, f1, g1⟩ := h_M_hoursOn (E := E) (d := d) (th := th) (sz := sz) (ea := ea) (tp := tp) (kp := kp) hM hK hT (nI h) (nI i) hS (by omega) w f
    obtain ⟨w2, f2, g2⟩ := ih (i + 1) (hrC b s nk nc nn rs re x) w1 f1 (some (.int (nI nk))) (n + 6) (by omega) (hr_S h3.2.1 e1 e2 e4 e6 h2.2.1 hS (by omega)) (by omega)
    refine ⟨w2, f2, fun Q => ?_⟩
    rw [s_M_hoursOn_2]
    simp only [s_M_hoursOn_3, s_M_hoursOn_4, s_M_hoursOn_7, s_M_hoursOn_8, not_false_eq_true, Nat.reduceLT, Nat.reduceAdd, true_and, and_true, if_true, if_false, ite_true, ite_false, xnb_0, xnb_1, xnb_b, xk_v, xk_n, nlt (show i < h by omega) (by omega)]
    refine (g1 Q).trans ?_
    rw [nI_1]
    exact g2 Q
theorem f_M_hoursOn (hM : kM H K g q) (hK : mK K) (hT : kTwo b s g q co ro nk nc nn cnt rs re) (h : Nat) (hh : h ≤ 200) {x : bhr} (hS : kSt x.1.1 x.2 co ro nk nn n) (hn : n + 6 * h < 999990) (w f : Nat → Int32) : ∃ w' f', ∀ Q,
    xcall E xprog (d + 10) 180 [.ref 63, .int (nI h)] (mH H K th sz ea tp (nwO nn x.1.1 x.2) kp w f) Q =
    Q (.inl none, mH H K th sz ea tp (nwO nn (hrI b s nk nc nn rs re h x).1.1 (hrI b s nk nc nn rs re h x).2) kp w' f') := by
  obtain ⟨w', f', hl⟩ := l_M_hoursOn (E := E) (d := d) (th := th) (sz := sz) (ea := ea) (tp := tp) (kp := kp) hM hK hT h hh h 0 x w f none n (by omega) hS hn
  refine ⟨w', f', fun Q => ?_⟩
  rw [e_M_hoursOn, s_M_hoursOn_0, s_M_hoursOn_1]
  exact hl Q
theorem hr_SI (hT : kTwo b s g q co ro nk nc nn cnt rs re) : ∀ m (x : bhr) (n : Nat), kSt x.1.1 x.2 co ro nk nn n → n + 6 * m < 999990 → kSt (hrI b s nk nc nn rs re m x).1.1 (hrI b s nk nc nn rs re m x).2 co ro nk nn (n + 6 * m)
  | 0, _, _, h, _ => h
  | m + 1, x, n, h, hn => by
    obtain ⟨h1, h2, h3, ⟨e1, e2, e3, e4, e5, e6⟩, h5, h6, h7, h8, h9, h10⟩ := id hT
    have := hr_SI hT m (hrC b s nk nc nn rs re x) (n + 6) (hr_S h3.2.1 e1 e2 e4 e6 h2.2.1 h (by omega)) (by omega)
    rw [show n + 6 + 6 * m = n + 6 * (m + 1) by omega] at this
    exact this
end MHOURS
