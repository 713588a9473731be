/-! ===== the two books as one; the model is taught ===== -/
section MTEACH2
variable {E : xE} {d : Nat} {Q : xR → Prop} {H : xH} {R K : Nat} {th sz ea : Int32} {tp nw kp wc sk : Nat → Int32} {T : Nat → Nat} {l : Nat} {kd nu st : Nat → Int32} {vl : Nat → Int64} {EE x : Nat} {k km : bkS}
def rsK (k : bkS) (c : Nat) : Nat := (k.1 10 c).toNatClampNeg
def reK (k : bkS) (c : Nat) : Nat := (k.1 11 c).toNatClampNeg
theorem two_of (h : relB kd vl T l EE k km) (hm : mOK km x) (hk : kOK k) : ∃ co ro, kTwo k.1 (sxK k) km.1 (sxK km) co ro k.2.2.2.1 k.2.2.2.2.1 k.2.2.2.2.2.1 k.2.2.2.2.2.2 (rsK k) (reK k) := by
  obtain ⟨co, ro, ⟨c1, c2, r1, r2⟩, h1, h2, h3, h4, h5, h6, h7, h8⟩ := h
  obtain ⟨k1, k2, k3, k4⟩ := hk
  have e1 : km.2.2.2.1 = k.2.2.2.1 := by rw [h3]
  have e2 : km.2.2.2.2.1 = k.2.2.2.2.1 := by rw [h3]
  have e3 : km.2.2.2.2.2.1 = k.2.2.2.2.2.1 := by rw [h3]
  have e4 : km.2.2.2.2.2.2 = k.2.2.2.2.2.2 := by rw [h3]
  have s0 : sxK k 0 = nI co := by show k.2.2.1.1 = _; rw [h1]
  have s1 : sxK k 1 = nI ro := by show k.2.2.1.2 = _; rw [h1]
  have q0 : sxK km 0 = nI co := by show km.2.2.1.1 = _; rw [h2]
  have q1 : sxK km 1 = nI ro := by show km.2.2.1.2 = _; rw [h2]
  have hc : ∀ c, c < k.2.2.2.2.2.1 → rsK k c ≤ reK k c ∧ reK k c ≤ k.2.2.2.2.2.2 ∧ k.1 10 c = nI (rsK k c) ∧ k.1 11 c = nI (reK k c) ∧ km.1 6 c = nI (rsK k c) ∧ km.1 6 (c + 1) = nI (reK k c) ∧ hgt (k.1 0) (rsK k c) (reK k c - rsK k c) 0 := by
    intro c hc
    obtain ⟨_, _, _, _, _, ⟨rs, re, a1, a2, a3, a4, a5, a6, a7⟩, _⟩ := h6 c hc
    have u1 : rsK k c = rs := by
      unfold rsK
      rw [a3, ncl (by omega)]
    have u2 : reK k c = re := by
      unfold reK
      rw [a4, ncl (by omega)]
    rw [u1, u2]
    exact ⟨a1, a2, a3, a4, a5, a6, a7⟩
  refine ⟨co, ro, ⟨q0.trans s0.symm, q1.trans s1.symm, ?_, k1, co, ro, c1, c2, r1, r2, s0, s1, h4⟩, ⟨?_, k3, ?_⟩, ⟨rfl, k1, rfl, k2, rfl, k3, rfl, k4, ?_⟩, ⟨s0, s1, c1, c2, r1, r2⟩, ?_, h4, h5, ?_, h7, ?_⟩
  · show nI km.2.2.2.1 = _
    rw [e1]
  · show nI km.2.2.2.2.2.1 = _
    rw [e3]
  · intro c h
    obtain ⟨a1, a2, a3, a4, _⟩ := h6 c h
    obtain ⟨_, _, _, _, b5, b6, _⟩ := hc c h
    exact ⟨a1, a2, a3, a4, b5, b6⟩
  · intro c h
    obtain ⟨b1, b2, b3, b4, _⟩ := hc c h
    exact ⟨b1, b2, b3, b4⟩
  · show nI km.2.2.2.2.1 = _
    rw [e2]
  · intro c h
    obtain ⟨_, _, _, _, a5, _⟩ := h6 c h
    exact a5
  · intro c h
    exact (hc c h).2.2.2.2.2.2
variable {a0 kn fr nu' : Int32} {na : Int64} {tk fa fp wr cl : Int32} {g : Nat → Nat → Int32} {q : Nat → Int32} {ns : Nat → Int64}
theorem nH_kM (hR : 77 < R) : kM (nH H R a0 kn fr nu' na tk fa fp wr cl g q ns) (R + 1) g q := by
  refine ⟨?_, ?_, ?_, ?_, ?_, ?_, ?_, ?_, ?_⟩ <;> simp only [nH_c1, nH_c2, nH_c3, nH_c4, nH_c5, nH_c6, nH_c7, nH_c8, nH_c9, Nat.add_assoc, Nat.reduceAdd]
theorem mnF (hR : 77 < R) : xfls (mH (nH H R a0 kn fr nu' na tk fa fp wr cl g q ns) K th sz ea tp nw kp wc sk) R 10 = [.ref (R + 1), .ref (R + 10), .int a0, .int kn, .int fr, .int nu', .long na, .int tk, .int fa, .int fp, .int wr, .int cl, .ref 63] := by
  rw [← nm_c hR]
  exact nQF_R
theorem mnC (hR : 77 < R) : xcl (mH (nH H R a0 kn fr nu' na tk fa fp wr cl g q ns) K th sz ea tp nw kp wc sk) R = 10 := by
  rw [← nm_c hR]
  exact nQC_R
theorem f_M_teach (hR : H.2.1 = R) (h7 : 77 < R) (hb : byt T tp) (hl : l ≤ 1600) (hA : tkAll kd nu st vl T l EE) (hz : ∀ i, 51 ≤ i → nw i = 0) (w : Int32 × Int32) (b : Nat → Nat → Int32) (nm : Nat → Int64) (a : Nat → Nat → Int32) :
    ∃ (H' : xH) (K' : Nat) (nw' : Nat → Int32), (∀ Q, xcall E xprog (d + 67) 156 [.ref 63] (mH H K th (nI l) ea tp nw kp wc sk) Q = Q (.inl (some (.int (rdP kd nu st vl 401 0 0 (0, -1) w ((b, nm, (6, 6), 0, 0, 0, 0) : bkS)).2.1.1)), mH H' K' 0 0 (rdP kd nu st vl 401 0 0 (0, -1) w ((b, nm, (6, 6), 0, 0, 0, 0) : bkS)).2.1.2 tp nw' kp wc sk)) ∧
      H'.2 = (R + 11, H.2.2 + 884) ∧ (∀ n, n < R → H'.1 n = H.1 n) ∧ (¬ (rdP kd nu st vl 401 0 0 (0, -1) w ((b, nm, (6, 6), 0, 0, 0, 0) : bkS)).2.1.1 = 0 → K' = K ∧ nw' = nw) ∧
      ((rdP kd nu st vl 401 0 0 (0, -1) w ((b, nm, (6, 6), 0, 0, 0, 0) : bkS)).2.1.1 = 0 → K' = R + 1 ∧ nw' = nwO (rdP kd nu st vl 401 0 0 (0, -1) w ((b, nm, (6, 6), 0, 0, 0, 0) : bkS)).2.2.2.2.2.2.2.2.1 (bg2 (bg1 a 0 6) (rdP kd nu st vl 401 0 0 (0, -1) w ((b, nm, (6, 6), 0, 0, 0, 0) : bkS)).2.2.2.1 0 6) (tri 0 0 0) ∧ ∃ (g : Nat → Nat → Int32) (q : Nat → Int32) (co ro : Nat), kM H' K' g q ∧
        kTwo (rdP kd nu st vl 401 0 0 (0, -1) w ((b, nm, (6, 6), 0, 0, 0, 0) : bkS)).2.2.2.1 (sxK (rdP kd nu st vl 401 0 0 (0, -1) w ((b, nm, (6, 6), 0, 0, 0, 0) : bkS)).2.2.2) g q co ro (rdP kd nu st vl 401 0 0 (0, -1) w ((b, nm, (6, 6), 0, 0, 0, 0) : bkS)).2.2.2.2.2.2.1 (rdP kd nu st vl 401 0 0 (0, -1) w ((b, nm, (6, 6), 0, 0, 0, 0) : bkS)).2.2.2.2.2.2.2.1 (rdP kd nu st vl 401 0 0 (0, -1) w ((b, nm, (6, 6), 0, 0, 0, 0) : bkS)).2.2.2.2.2.2.2.2.1 (rdP kd nu st vl 401 0 0 (0, -1) w ((b, nm, (6, 6), 0, 0, 0, 0) : bkS)).2.2.2.2.2.2.2.2.2 (rsK (rdP kd nu st vl 401 0 0 (0, -1) w ((b, nm, (6, 6), 0, 0, 0, 0) : bkS)).2.2.2) (reK (rdP kd nu st vl 401 0 0 (0, -1) w ((b, nm, (6, 6), 0, 0, 0, 0) : bkS)).2.2.2)) := by
  obtain ⟨bb, x', f', wr', cl', k', y1, y2, y3⟩ := f_MR_book (d := d + 1) (E := E) (H := grow H) (R := R) (K := K) (th := 0) (ea := ea) (tp := tp) (nw := nw) (kp := kp) (wc := wc) (sk := sk) h7 hb hl hA w b nm
  have i1 : ∀ Q, xcall E xprog (d + 66) 120 [.ref R, .ref 63] (xnew (mH H K 0 (nI l) ea tp nw kp wc sk) (.inr (10, xdef 10)) 13) Q = Q (.inl none, (nH (mH (grow H) K 0 (nI l) ea tp nw kp wc sk) R 0 0 0 0 0 0 0 (-1) (-1) 0 (fun _ _ => 0) (six 6 6 0 0 0 0) (fun _ => 0))) := by
    intro Q
    rw [f_MR_init (d := d + 64) (H := mH H K 0 (nI l) ea tp nw kp wc sk) hR, nH_new (H := mH H K 0 (nI l) ea tp nw kp wc sk) hR, gr_m]
  have go : ∀ Q, xcall E xprog (d + 67) 156 [.ref 63] (mH H K th (nI l) ea tp nw kp wc sk) Q = xr E (d + 66) m_M_teach Q (25, [some (.ref 63), some (.ref R), some (.int (bI bb)), none], [.int (bI bb)], mH (nH (grow H) R (mzA T l x') (mzK T l x') (mzF T l x') (mzN T l x') (mzS T l x') (nI (x' + 1)) f'.1 f'.2 wr' cl' k'.1 (sxK k') k'.2.1) K 0 0 ea tp nw kp wc sk) := by
    intro Q
    rw [e_M_teach]
    simp only [s_M_teach_0, s_M_teach_1, s_M_teach_2, s_M_teach_5, s_M_teach_8, s_M_teach_9, s_M_teach_10, mF, mC, ml_64, mf_64, mw_63, mw_64, ml_74, mf_74, mw_74, ml_75, mf_75, mw_75, ml_76, mf_76, mw_76, ml_77, mf_77, mw_77, xll_11, xlg_11_0, xlg_11_1, xlg_11_2, xlg_11_3, xlg_11_4, xlg_11_5, xlg_11_6, xlg_11_7, xlg_11_8, xls_11_0, xls_11_1, xls_11_2, xls_11_3, xls_11_4, xls_11_5, xls_11_6, xls_11_7, xls_11_8, not_false_eq_true, Nat.reduceLT, Nat.reduceAdd, true_and, and_true, if_true, if_false, ite_true, ite_false, xnb_0, xnb_1, xnb_b, xk_v, xk_n, mH_2, hR, i1, s_M_teach_13, s_M_teach_14, s_M_teach_15, nQC_R, y1]
    simp only [nm_c h7, s_M_teach_18, s_M_teach_19, s_M_teach_20, s_M_teach_21, s_M_teach_24, mF, mC, ml_64, mf_64, mw_63, mw_64, ml_74, mf_74, mw_74, ml_75, mf_75, mw_75, ml_76, mf_76, mw_76, ml_77, mf_77, mw_77, xll_11, xlg_11_0, xlg_11_1, xlg_11_2, xlg_11_3, xlg_11_4, xlg_11_5, xlg_11_6, xlg_11_7, xlg_11_8, xls_11_0, xls_11_1, xls_11_2, xls_11_3, xls_11_4, xls_11_5, xls_11_6, xls_11_7, xls_11_8, not_false_eq_true, Nat.reduceLT, Nat.reduceAdd, true_and, and_true, if_true, if_false, ite_true, ite_false, xnb_0, xnb_1, xnb_b, xk_v, xk_n]
  have hg2 : (nH (grow H) R (mzA T l x') (mzK T l x') (mzF T l x') (mzN T l x') (mzS T l x') (nI (x' + 1)) f'.1 f'.2 wr' cl' k'.1 (sxK k') k'.2.1).2 = (R + 11, H.2.2 + 884) := by
    rw [nH_2, ← hR]
    rfl
  by_cases hbb : bb = true
  · obtain ⟨z1, z2, z3, z4⟩ := y3 hbb
    subst hbb
    generalize hrd : (rdP kd nu st vl 401 0 0 (0, -1) w ((b, nm, (6, 6), 0, 0, 0, 0) : bkS)) = rd at z1 z3 z4 ⊢
    by_cases hf : f'.1 = 0
    · obtain ⟨co, ro, h2⟩ := two_of (z4 hf) z2 z3
      refine ⟨(nH (grow H) R (mzA T l x') (mzK T l x') (mzF T l x') (mzN T l x') (mzS T l x') (nI (x' + 1)) f'.1 f'.2 wr' cl' k'.1 (sxK k') k'.2.1), R + 1, nwO rd.2.2.2.2.2.2.2.2.1 (bg2 (bg1 a 0 6) rd.2.2.2.1 0 6) (tri 0 0 0), fun Q => ?_, hg2, fun n hn => nH_o n (Or.inl hn), fun h => absurd (z1 ▸ hf) h, fun _ => ⟨rfl, rfl, k'.1, sxK k', co, ro, nH_kM h7, h2⟩⟩
      have hbg := fun (Q : xR → Prop) => f_M_begin (E := E) (d := d + 64) (Q := Q) (th := 0) (sz := 0) (ea := f'.2) (tp := tp) (nw := nw) (kp := kp) (wc := wc) (sk := sk) (a := a) (nH_kM (H := grow H) (R := R) (a0 := mzA T l x') (kn := mzK T l x') (fr := mzF T l x') (nu' := mzN T l x') (na := mzS T l x') (tk := nI (x' + 1)) (fa := f'.1) (fp := f'.2) (wr := wr') (cl := cl') (g := k'.1) (q := sxK k') (ns := k'.2.1) h7) (Or.inr (by omega)) h2.2.1 hz
      simp only [hf] at hbg
      rw [go]
      simp only [s_M_teach_25, bI_t, s_M_teach_28, s_M_teach_29, s_M_teach_32, s_M_teach_36, s_M_teach_37, s_M_teach_38, s_M_teach_39, s_M_teach_42, s_M_teach_43, s_M_teach_46, s_M_teach_49, s_M_teach_50, s_M_teach_53, s_M_teach_56, s_M_teach_57, s_M_teach_60, s_M_teach_61, s_M_teach_62, s_M_teach_63, s_M_teach_64, s_M_teach_67, s_M_teach_70, s_M_teach_71, s_M_teach_74, s_M_teach_75, mnF h7, mnC h7, xll_10, xlg_10_0, xlg_10_1, xlg_10_2, xlg_10_3, xlg_10_4, xlg_10_5, xlg_10_6, xlg_10_7, xlg_10_8, xlg_10_9, xlg_10_10, xlg_10_11, xlg_10_12, mF, mC, ml_64, mf_64, mw_63, mw_64, ml_74, mf_74, mw_74, ml_75, mf_75, mw_75, ml_76, mf_76, mw_76, ml_77, mf_77, mw_77, xll_11, xlg_11_0, xlg_11_1, xlg_11_2, xlg_11_3, xlg_11_4, xlg_11_5, xlg_11_6, xlg_11_7, xlg_11_8, xls_11_0, xls_11_1, xls_11_2, xls_11_3, xls_11_4, xls_11_5, xls_11_6, xls_11_7, xls_11_8, not_false_eq_true, Nat.reduceLT, Nat.reduceAdd, true_and, and_true, if_true, if_false, ite_true, ite_false, xnb_0, xnb_1, xnb_b, xk_v, xk_n, hf, show ((1 : Int32) = 0) = False from eq_false (by decide), hbg, z1]
    · refine ⟨(nH (grow H) R (mzA T l x') (mzK T l x') (mzF T l x') (mzN T l x') (mzS T l x') (nI (x' + 1)) f'.1 f'.2 wr' cl' k'.1 (sxK k') k'.2.1), K, nw, fun Q => ?_, hg2, fun n hn => nH_o n (Or.inl hn), fun _ => ⟨rfl, rfl⟩, fun h => absurd (z1 ▸ h) hf⟩
      rw [go]
      simp only [s_M_teach_25, bI_t, s_M_teach_28, s_M_teach_29, s_M_teach_32, s_M_teach_36, s_M_teach_37, s_M_teach_38, s_M_teach_39, s_M_teach_42, s_M_teach_43, s_M_teach_46, s_M_teach_49, s_M_teach_50, s_M_teach_53, s_M_teach_56, s_M_teach_57, s_M_teach_60, s_M_teach_61, mnF h7, mnC h7, xll_10, xlg_10_0, xlg_10_1, xlg_10_2, xlg_10_3, xlg_10_4, xlg_10_5, xlg_10_6, xlg_10_7, xlg_10_8, xlg_10_9, xlg_10_10, xlg_10_11, xlg_10_12, mF, mC, ml_64, mf_64, mw_63, mw_64, ml_74, mf_74, mw_74, ml_75, mf_75, mw_75, ml_76, mf_76, mw_76, ml_77, mf_77, mw_77, xll_11, xlg_11_0, xlg_11_1, xlg_11_2, xlg_11_3, xlg_11_4, xlg_11_5, xlg_11_6, xlg_11_7, xlg_11_8, xls_11_0, xls_11_1, xls_11_2, xls_11_3, xls_11_4, xls_11_5, xls_11_6, xls_11_7, xls_11_8, not_false_eq_true, Nat.reduceLT, Nat.reduceAdd, true_and, and_true, if_true, if_false, ite_true, ite_false, xnb_0, xnb_1, xnb_b, xk_v, xk_n, hf, show ((1 : Int32) = 0) = False from eq_false (by decide), z1]
  · have hbb' : bb = false := by cases bb <;> simp_all
    have z1 := y2 hbb'
    subst hbb'
    generalize hrd : (rdP kd nu st vl 401 0 0 (0, -1) w ((b, nm, (6, 6), 0, 0, 0, 0) : bkS)) = rd at z1 ⊢
    have e1 : rd.2.1.1 = 1 := by rw [z1]
    have e2 : rd.2.1.2 = wr' := by rw [z1]
    refine ⟨(nH (grow H) R (mzA T l x') (mzK T l x') (mzF T l x') (mzN T l x') (mzS T l x') (nI (x' + 1)) f'.1 f'.2 wr' cl' k'.1 (sxK k') k'.2.1), K, nw, fun Q => ?_, hg2, fun n hn => nH_o n (Or.inl hn), fun _ => ⟨rfl, rfl⟩, fun h => absurd (e1 ▸ h) (by decide)⟩
    rw [go]
    simp only [s_M_teach_25, bI_f, s_M_teach_35, s_M_teach_36, s_M_teach_37, s_M_teach_38, s_M_teach_39, s_M_teach_42, s_M_teach_43, s_M_teach_46, s_M_teach_49, s_M_teach_50, s_M_teach_53, s_M_teach_56, s_M_teach_57, s_M_teach_60, s_M_teach_61, mnF h7, mnC h7, xll_10, xlg_10_0, xlg_10_1, xlg_10_2, xlg_10_3, xlg_10_4, xlg_10_5, xlg_10_6, xlg_10_7, xlg_10_8, xlg_10_9, xlg_10_10, xlg_10_11, xlg_10_12, mF, mC, ml_64, mf_64, mw_63, mw_64, ml_74, mf_74, mw_74, ml_75, mf_75, mw_75, ml_76, mf_76, mw_76, ml_77, mf_77, mw_77, xll_11, xlg_11_0, xlg_11_1, xlg_11_2, xlg_11_3, xlg_11_4, xlg_11_5, xlg_11_6, xlg_11_7, xlg_11_8, xls_11_0, xls_11_1, xls_11_2, xls_11_3, xls_11_4, xls_11_5, xls_11_6, xls_11_7, xls_11_8, not_false_eq_true, Nat.reduceLT, Nat.reduceAdd, true_and, and_true, if_true, if_false, ite_true, ite_false, xnb_0, xnb_1, xnb_b, xk_v, xk_n, show ((1 : Int32) = 0) = False from eq_false (by decide), e1, e2]
end MTEACH2
