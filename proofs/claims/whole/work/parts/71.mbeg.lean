/-! ===== the model begins; its new reader as one heap ===== -/
section MBEG
variable {E : xE} {d : Nat} {Q : xR → Prop} {H : xH} {K : Nat} {b : Nat → Nat → Int32} {s : Nat → Int32} {g : Nat → Nat → Int32} {q : Nat → Int32} {th sz ea : Int32} {tp nw kp wc sk : Nat → Int32} {a : Nat → Nat → Int32} {nn : Nat} {rs re : Nat → Nat}
theorem l1_Mbeg : ∀ m i (nw : Nat → Int32), i + m = 51 →
    xr E d m_M_begin Q (2, [some (.ref 63), some (.int (nI i))], [], (mH H K th sz ea tp nw kp wc sk)) = xr E d m_M_begin Q (23, [some (.ref 63), some (.int 0)], [], mH H K th sz ea tp (fil (fun _ => 0) i m nw) kp wc sk) := by
  intro m
  induction m with
  | zero =>
    intro i nw hi
    have : i = 51 := by omega
    subst this
    rw [s_M_begin_2]
    simp only [s_M_begin_3, s_M_begin_5, s_M_begin_8, s_M_begin_9, s_M_begin_12, s_M_begin_13, s_M_begin_14, s_M_begin_15, s_M_begin_18, s_M_begin_21, s_M_begin_22, mF, mC, ml_64, mf_64, mw_63, mw_64, ml_74, mf_74, mw_74, ml_75, mf_75, mw_75, ml_76, mf_76, mw_76, ml_77, mf_77, mw_77, xll_11, xlg_11_0, xlg_11_1, xlg_11_2, xlg_11_3, xlg_11_4, xlg_11_5, xlg_11_6, xlg_11_7, xlg_11_8, xls_11_0, xls_11_1, xls_11_2, xls_11_3, xls_11_4, xls_11_5, xls_11_6, xls_11_7, xls_11_8, not_false_eq_true, Nat.reduceLT, Nat.reduceAdd, true_and, and_true, if_true, if_false, ite_true, ite_false, xnb_0, xnb_1, xnb_b, xk_v, xk_n, show (nI 51 < 51) = False from nge (n := 51) (Nat.le_refl 51) (by omega), fil]
  | succ m ih =>
    intro i nw hi
    rw [s_M_begin_2]
    simp only [s_M_begin_3, s_M_begin_5, s_M_begin_8, s_M_begin_9, s_M_begin_12, s_M_begin_13, s_M_begin_14, s_M_begin_15, s_M_begin_18, mF, mC, ml_64, mf_64, mw_63, mw_64, ml_74, mf_74, mw_74, ml_75, mf_75, mw_75, ml_76, mf_76, mw_76, ml_77, mf_77, mw_77, xll_11, xlg_11_0, xlg_11_1, xlg_11_2, xlg_11_3, xlg_11_4, xlg_11_5, xlg_11_6, xlg_11_7, xlg_11_8, xls_11_0, xls_11_1, xls_11_2, xls_11_3, xls_11_4, xls_11_5, xls_11_6, xls_11_7, xls_11_8, not_false_eq_true, Nat.reduceLT, Nat.reduceAdd, true_and, and_true, if_true, if_false, ite_true, ite_false, xnb_0, xnb_1, xnb_b, xk_v, xk_n, show (nI i < 51) = True from nlt (n := 51) (show i < 51 by omega) (by omega), nvp (show i < 51 by omega) (by omega), ncl (show i < 2147483648 by omega), nI_1, ih (i + 1) _ (by omega), fil]
def fl6 (u v : Nat → Int32) : Nat → Nat → (Nat → Int32) → Nat → Int32
  | _, 0, f => f
  | i, m + 1, f => fl6 u v (i + 1) m (upd (upd f (15 + 6 * i + 0) (u i)) (15 + 6 * i + 1) (v i))
theorem fl6_g {u v : Nat → Int32} : ∀ m i (f : Nat → Int32) j, fl6 u v i m f j = if 15 + 6 * i ≤ j ∧ j < 15 + 6 * (i + m) then (if (j - 15) % 6 = 0 then u ((j - 15) / 6) else if (j - 15) % 6 = 1 then v ((j - 15) / 6) else f j) else f j := by
  intro m
  induction m with
  | zero =>
    intro i f j
    rw [if_neg (by omega)]
    rfl
  | succ m ih =>
    intro i f j
    unfold fl6
    rw [ih]
    by_cases p1 : j = 15 + 6 * i + 1
    · subst p1
      rw [if_neg (by omega), if_pos (by omega), if_neg (by omega), if_pos (by omega), upd_s, show (15 + 6 * i + 1 - 15) / 6 = i by omega]
    by_cases p0 : j = 15 + 6 * i + 0
    · subst p0
      rw [if_neg (by omega), if_pos (by omega), if_pos (by omega), upd_o (by omega), upd_s, show (15 + 6 * i + 0 - 15) / 6 = i by omega]
    rw [upd_o p1, upd_o p0]
    by_cases r : 15 + 6 * (i + 1) ≤ j ∧ j < 15 + 6 * (i + 1 + m)
    · rw [if_pos r, if_pos (c := 15 + 6 * i ≤ j ∧ j < 15 + 6 * (i + (m + 1))) (by omega)]
    · rw [if_neg r]
      by_cases r2 : 15 + 6 * i ≤ j ∧ j < 15 + 6 * (i + (m + 1))
      · rw [if_pos r2, if_neg (by omega), if_neg (by omega)]
      · rw [if_neg r2]
theorem l2_Mbeg (hM : kM H K g q) (hK : mK K) (hR : kRc b s g q nn rs re) : ∀ m i (nw : Nat → Int32), i + m = nn →
    xr E (d + 1) m_M_begin Q (23, [some (.ref 63), some (.int (nI i))], [], (mH H K th sz ea tp nw kp wc sk)) = Q (.inl none, mH H K th sz ea tp (fl6 (b 7) (b 8) i m nw) kp wc sk) := by
  have h6 := hR.2.1
  have hq := hR.1
  intro m
  induction m with
  | zero =>
    intro i nw hi
    rw [s_M_begin_23]
    simp only [s_M_begin_24, s_M_begin_25, s_M_begin_28, s_M_begin_31, s_M_begin_34, s_M_begin_35, s_M_begin_36, s_M_begin_37, s_M_begin_38, s_M_begin_41, s_M_begin_44, s_M_begin_45, s_M_begin_46, s_M_begin_49, s_M_begin_50, s_M_begin_51, s_M_begin_52, s_M_begin_53, s_M_begin_56, s_M_begin_59, s_M_begin_60, s_M_begin_61, s_M_begin_64, s_M_begin_67, s_M_begin_70, mF, mC, ml_64, mf_64, mw_63, mw_64, ml_74, mf_74, mw_74, ml_75, mf_75, mw_75, ml_76, mf_76, mw_76, ml_77, mf_77, mw_77, xll_11, xlg_11_0, xlg_11_1, xlg_11_2, xlg_11_3, xlg_11_4, xlg_11_5, xlg_11_6, xlg_11_7, xlg_11_8, xls_11_0, xls_11_1, xls_11_2, xls_11_3, xls_11_4, xls_11_5, xls_11_6, xls_11_7, xls_11_8, nF hM hK, nC hM hK, nl_0 hM hK, nl_1 hM hK, nl_2 hM hK, nl_3 hM hK, nl_4 hM hK, nl_5 hM hK, nl_6 hM hK, nl_7 hM hK, nf_0 hM hK, nf_1 hM hK, nf_2 hM hK, nf_3 hM hK, nf_4 hM hK, nf_5 hM hK, nf_6 hM hK, nf_7 hM hK, xll_9, xlg_9_0, xlg_9_1, xlg_9_2, xlg_9_3, xlg_9_4, xlg_9_5, xlg_9_6, xlg_9_7, xlg_9_8, xlg_9_9, xlg_9_10, xlg_9_11, xlg_9_12, xlg_9_13, not_false_eq_true, Nat.reduceLT, Nat.reduceAdd, true_and, and_true, if_true, if_false, ite_true, ite_false, xnb_0, xnb_1, xnb_b, xk_v, xk_n, hq, nge (show nn ≤ i by omega) (show i < 2147483648 by omega), fl6]
  | succ m ih =>
    intro i nw hi
    have hc := hR.2.2 i (by omega)
    rw [s_M_begin_23]
    simp only [s_M_begin_24, s_M_begin_25, s_M_begin_28, s_M_begin_31, s_M_begin_34, s_M_begin_35, s_M_begin_36, s_M_begin_37, s_M_begin_38, s_M_begin_41, s_M_begin_44, s_M_begin_45, s_M_begin_46, s_M_begin_49, s_M_begin_50, s_M_begin_51, s_M_begin_52, s_M_begin_53, s_M_begin_56, s_M_begin_59, s_M_begin_60, s_M_begin_61, s_M_begin_64, s_M_begin_67, s_M_begin_70, mF, mC, ml_64, mf_64, mw_63, mw_64, ml_74, mf_74, mw_74, ml_75, mf_75, mw_75, ml_76, mf_76, mw_76, ml_77, mf_77, mw_77, xll_11, xlg_11_0, xlg_11_1, xlg_11_2, xlg_11_3, xlg_11_4, xlg_11_5, xlg_11_6, xlg_11_7, xlg_11_8, xls_11_0, xls_11_1, xls_11_2, xls_11_3, xls_11_4, xls_11_5, xls_11_6, xls_11_7, xls_11_8, nF hM hK, nC hM hK, nl_0 hM hK, nl_1 hM hK, nl_2 hM hK, nl_3 hM hK, nl_4 hM hK, nl_5 hM hK, nl_6 hM hK, nl_7 hM hK, nf_0 hM hK, nf_1 hM hK, nf_2 hM hK, nf_3 hM hK, nf_4 hM hK, nf_5 hM hK, nf_6 hM hK, nf_7 hM hK, xll_9, xlg_9_0, xlg_9_1, xlg_9_2, xlg_9_3, xlg_9_4, xlg_9_5, xlg_9_6, xlg_9_7, xlg_9_8, xlg_9_9, xlg_9_10, xlg_9_11, xlg_9_12, xlg_9_13, not_false_eq_true, Nat.reduceLT, Nat.reduceAdd, true_and, and_true, if_true, if_false, ite_true, ite_false, xnb_0, xnb_1, xnb_b, xk_v, xk_n, hq, nlt (show i < nn by omega) (show nn < 2147483648 by omega), nvp (show i < 7 by omega) (by omega), ncl (show i < 2147483648 by omega), c_let_0 i (show i < 6 by omega), c_let_1 i (show i < 6 by omega), hc.1, hc.2.1, nI_1, ih (i + 1) _ (by omega), fl6]
theorem nw_beg (h6 : nn ≤ 6) (hz : ∀ i, 51 ≤ i → nw i = 0) : fl6 (b 7) (b 8) 0 nn (fil (fun _ => 0) 0 51 nw) = nwO nn (bg2 (bg1 a 0 6) b 0 6) (tri 0 0 0) := by
  funext j
  rw [fl6_g]
  have z0 : fil (fun _ => (0 : Int32)) 0 51 nw j = 0 := by
    rw [fil_g]
    by_cases p : j < 51
    · rw [if_pos ⟨by omega, by omega⟩]
    · rw [if_neg (by omega), hz j (by omega)]
  rw [z0]
  unfold nwO
  by_cases j0 : j = 0
  · subst j0; rw [if_neg (by omega), if_pos rfl]; rfl
  by_cases j1 : j = 1
  · subst j1; rw [if_neg (by omega), if_neg j0, if_pos rfl]; rfl
  by_cases j2 : j = 2
  · subst j2; rw [if_neg (by omega), if_neg j0, if_neg j1, if_pos rfl]; rfl
  rw [if_neg j0, if_neg j1, if_neg j2]
  by_cases j3 : j < 15
  · rw [if_neg (by omega), if_pos j3]
    have hk : (j - 3) / 2 < 6 := by omega
    rcases Nat.mod_two_eq_zero_or_one (j - 3) with e | e
    · rw [e]
      show (0 : Int32) = fil (fun _ => 0) 0 6 (a 0) ((j - 3) / 2)
      rw [fil_g, if_pos ⟨by omega, by omega⟩]
    · rw [e]
      show (0 : Int32) = fil (fun _ => 0) 0 6 (a 2) ((j - 3) / 2)
      rw [fil_g, if_pos ⟨by omega, by omega⟩]
  · rw [if_neg j3]
    by_cases p : (j - 15) / 6 < nn
    · rw [if_pos p, if_pos ⟨by omega, by omega⟩]
      generalize hc : (j - 15) / 6 = c at p
      have hm : (j - 15) % 6 < 6 := Nat.mod_lt _ (by omega)
      generalize hm' : (j - 15) % 6 = m at hm
      have hc6 : c < 6 := by omega
      have hg : ∀ v f : Nat → Int32, fil v 0 6 f c = v c := fun v f => by rw [fil_g, if_pos ⟨by omega, by omega⟩]
      rcases (show m = 0 ∨ m = 1 ∨ m = 2 ∨ m = 3 ∨ m = 4 ∨ m = 5 by omega) with e | e | e | e | e | e <;> subst e
      · exact (hg (b 7) _).symm
      · exact (hg (b 8) _).symm
      · exact (hg (fun _ => 0) _).symm
      · exact (hg (fun _ => 0) _).symm
      · exact (hg (fun _ => 0) _).symm
      · exact (hg (fun _ => 0) _).symm
    · rw [if_neg p, if_neg (by omega)]
theorem f_M_begin (hM : kM H K g q) (hK : mK K) (hR : kRc b s g q nn rs re) (hz : ∀ i, 51 ≤ i → nw i = 0) : xcall E xprog (d + 2) 158 [.ref 63] (mH H K th sz ea tp nw kp wc sk) Q =
    Q (.inl none, mH H K th sz ea tp (nwO nn (bg2 (bg1 a 0 6) b 0 6) (tri 0 0 0)) kp wc sk) := by
  rw [e_M_begin]
  simp only [s_M_begin_0, s_M_begin_1]
  rw [show (0 : Int32) = nI 0 from rfl, l1_Mbeg 51 0 _ rfl, show (0 : Int32) = nI 0 from rfl, l2_Mbeg hM hK hR nn 0 _ (by omega)]
  rw [show nI 0 = (0 : Int32) from rfl, nw_beg hR.2.1 hz]
end MBEG
