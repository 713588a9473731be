/-! ===== the model: aroma ===== -/
section MAROMA
variable {E : xE} {d : Nat} {Q : xR → Prop} {H : xH} {K : Nat} {g : Nat → Nat → Int32} {q : Nat → Int32} {th sz ea : Int32} {tp nw kp wc sk : Nat → Int32} {b : Nat → Nat → Int32} {s : Nat → Int32}
/-- the kettles of the two books -/
def kRk (b : Nat → Nat → Int32) (s : Nat → Int32) (g : Nat → Nat → Int32) (q : Nat → Int32) (nk : Nat) : Prop :=
  q 0 = s 0 ∧ q 1 = s 1 ∧ q 2 = nI nk ∧ nk ≤ 6 ∧ ∃ co ro, 3 ≤ co ∧ co ≤ 12 ∧ 3 ≤ ro ∧ ro ≤ 12 ∧ s 0 = nI co ∧ s 1 = nI ro ∧
    ∀ k, k < nk → ∃ x y z, x < co ∧ y < ro ∧ z ≤ 30 ∧ b 2 k = nI x ∧ b 3 k = nI y ∧ b 4 k = nI z ∧ g 0 k = nI (co * y + x) ∧ g 1 k = nI z
theorem l_M_aroma (hM : kM H K g q) (hK : mK K) (nk : Nat) (hR : kRk b s g q nk) (ca : Nat → Int32) (hc : ∀ k, k < nk → nw (3 + 2 * k + 0) = ca k ∧ ¬ ca k < 0) (x y : Int32) : ∀ m i (z : Int32) (j5 j6 : Option Value), i + m = nk →
    xr E (d + 1) m_M_aroma Q (5, [some (.ref 63), some (.int x), some (.int y), some (.int z), some (.int (nI i)), j5, j6], [], (mH H K th sz ea tp nw kp wc sk)) = Q (.inl (some (.int (aro ca (b 4) (b 2) (b 3) (x - eaw (nw 1) * nw 2) (y - sow (nw 1) * nw 2) i m z))), (mH H K th sz ea tp nw kp wc sk)) := by
  obtain ⟨r0, r1, r2, r3, co, ro, c1, c2, c3, c4, c5, c6, r4⟩ := id hR
  intro m
  induction m with
  | zero =>
    intro i z j5 j6 hi
    rw [s_M_aroma_5]
    simp only [s_M_aroma_0, s_M_aroma_1, s_M_aroma_2, s_M_aroma_3, s_M_aroma_7, s_M_aroma_8, s_M_aroma_11, s_M_aroma_14, s_M_aroma_17, s_M_aroma_18, s_M_aroma_20, s_M_aroma_21, s_M_aroma_24, s_M_aroma_27, s_M_aroma_30, s_M_aroma_31, s_M_aroma_34, s_M_aroma_37, s_M_aroma_39, s_M_aroma_40, s_M_aroma_41, s_M_aroma_44, s_M_aroma_47, s_M_aroma_48, s_M_aroma_49, s_M_aroma_52, s_M_aroma_53, s_M_aroma_54, s_M_aroma_55, s_M_aroma_58, s_M_aroma_59, s_M_aroma_60, s_M_aroma_63, s_M_aroma_64, s_M_aroma_65, s_M_aroma_67, s_M_aroma_68, s_M_aroma_71, s_M_aroma_74, s_M_aroma_76, s_M_aroma_77, s_M_aroma_78, s_M_aroma_81, s_M_aroma_84, s_M_aroma_85, s_M_aroma_86, s_M_aroma_89, s_M_aroma_90, s_M_aroma_91, s_M_aroma_92, s_M_aroma_95, s_M_aroma_96, s_M_aroma_97, s_M_aroma_100, s_M_aroma_101, s_M_aroma_102, s_M_aroma_104, s_M_aroma_105, s_M_aroma_106, s_M_aroma_107, s_M_aroma_110, s_M_aroma_113, s_M_aroma_115, s_M_aroma_116, s_M_aroma_117, s_M_aroma_118, s_M_aroma_120, s_M_aroma_121, s_M_aroma_124, s_M_aroma_125, s_M_aroma_127, s_M_aroma_128, s_M_aroma_131, s_M_aroma_132, s_M_aroma_133, s_M_aroma_134, s_M_aroma_137, s_M_aroma_138, s_M_aroma_139, s_M_aroma_142, s_M_aroma_145, s_M_aroma_146, mF, mC, ml_64, mf_64, mw_63, mw_64, ml_74, mf_74, mw_74, ml_75, mf_75, mw_75, ml_76, mf_76, mw_76, ml_77, mf_77, mw_77, xll_11, xlg_11_0, xlg_11_1, xlg_11_2, xlg_11_3, xlg_11_4, xlg_11_5, xlg_11_6, xlg_11_7, xlg_11_8, xls_11_0, xls_11_1, xls_11_2, xls_11_3, xls_11_4, xls_11_5, xls_11_6, xls_11_7, xls_11_8, nF hM hK, nC hM hK, nl_0 hM hK, nl_1 hM hK, nl_2 hM hK, nl_3 hM hK, nl_4 hM hK, nl_5 hM hK, nl_6 hM hK, nl_7 hM hK, nf_0 hM hK, nf_1 hM hK, nf_2 hM hK, nf_3 hM hK, nf_4 hM hK, nf_5 hM hK, nf_6 hM hK, nf_7 hM hK, xll_9, xlg_9_0, xlg_9_1, xlg_9_2, xlg_9_3, xlg_9_4, xlg_9_5, xlg_9_6, xlg_9_7, xlg_9_8, xlg_9_9, xlg_9_10, xlg_9_11, xlg_9_12, xlg_9_13, not_false_eq_true, Nat.reduceLT, Nat.reduceAdd, true_and, and_true, if_true, if_false, ite_true, ite_false, xnb_0, xnb_1, xnb_b, xk_v, xk_n, r2, nge (show nk ≤ i by omega) (by omega), aro]
  | succ m ih =>
    intro i z j5 j6 hi
    obtain ⟨kx, ky, kz, e1, e2, e3, e4, e5, e6, e7, e8⟩ := r4 i (by omega)
    have hd := nI_cell (y := ky) e1 c2 (by omega)
    have hi' := hc i (by omega)
    have h0 : (nI co = 0) = False := eq_false (nI_ne0 (by omega) (by omega))
    rw [s_M_aroma_5]
    simp only [s_M_aroma_0, s_M_aroma_1, s_M_aroma_2, s_M_aroma_3, s_M_aroma_7, s_M_aroma_8, s_M_aroma_11, s_M_aroma_14, s_M_aroma_17, s_M_aroma_18, s_M_aroma_20, s_M_aroma_21, s_M_aroma_24, s_M_aroma_27, s_M_aroma_30, s_M_aroma_31, s_M_aroma_34, s_M_aroma_37, s_M_aroma_39, s_M_aroma_40, s_M_aroma_41, s_M_aroma_44, s_M_aroma_47, s_M_aroma_48, s_M_aroma_49, s_M_aroma_52, s_M_aroma_53, s_M_aroma_54, s_M_aroma_55, s_M_aroma_58, s_M_aroma_59, s_M_aroma_60, s_M_aroma_63, s_M_aroma_64, s_M_aroma_65, s_M_aroma_67, s_M_aroma_68, s_M_aroma_71, s_M_aroma_74, s_M_aroma_76, s_M_aroma_77, s_M_aroma_78, s_M_aroma_81, s_M_aroma_84, s_M_aroma_85, s_M_aroma_86, s_M_aroma_89, s_M_aroma_90, s_M_aroma_91, s_M_aroma_92, s_M_aroma_95, s_M_aroma_96, s_M_aroma_97, s_M_aroma_100, s_M_aroma_101, s_M_aroma_102, s_M_aroma_104, s_M_aroma_105, s_M_aroma_106, s_M_aroma_107, s_M_aroma_110, s_M_aroma_113, s_M_aroma_115, s_M_aroma_116, s_M_aroma_117, s_M_aroma_118, s_M_aroma_120, s_M_aroma_121, s_M_aroma_124, s_M_aroma_125, s_M_aroma_127, s_M_aroma_128, s_M_aroma_131, s_M_aroma_132, s_M_aroma_133, s_M_aroma_134, s_M_aroma_137, s_M_aroma_138, s_M_aroma_139, s_M_aroma_142, s_M_aroma_145, s_M_aroma_146, mF, mC, ml_64, mf_64, mw_63, mw_64, ml_74, mf_74, mw_74, ml_75, mf_75, mw_75, ml_76, mf_76, mw_76, ml_77, mf_77, mw_77, xll_11, xlg_11_0, xlg_11_1, xlg_11_2, xlg_11_3, xlg_11_4, xlg_11_5, xlg_11_6, xlg_11_7, xlg_11_8, xls_11_0, xls_11_1, xls_11_2, xls_11_3, xls_11_4, xls_11_5, xls_11_6, xls_11_7, xls_11_8, nF hM hK, nC hM hK, nl_0 hM hK, nl_1 hM hK, nl_2 hM hK, nl_3 hM hK, nl_4 hM hK, nl_5 hM hK, nl_6 hM hK, nl_7 hM hK, nf_0 hM hK, nf_1 hM hK, nf_2 hM hK, nf_3 hM hK, nf_4 hM hK, nf_5 hM hK, nf_6 hM hK, nf_7 hM hK, xll_9, xlg_9_0, xlg_9_1, xlg_9_2, xlg_9_3, xlg_9_4, xlg_9_5, xlg_9_6, xlg_9_7, xlg_9_8, xlg_9_9, xlg_9_10, xlg_9_11, xlg_9_12, xlg_9_13, not_false_eq_true, Nat.reduceLT, Nat.reduceAdd, true_and, and_true, if_true, if_false, ite_true, ite_false, xnb_0, xnb_1, xnb_b, xk_v, xk_n, r2, nlt (show i < nk by omega) (by omega), c_ke_0 i (show i < 6 by omega), kv_1, kv_2, kc_1, kc_2, h0, nvp (show i < 7 by omega) (by omega), ncl (show i < 2147483648 by omega), nI_1, r0, c5, e7, e8, hd.1, hd.2, f_M_across, f_M_down, ih (i + 1) _ _ _ (by omega), aro, aroV, e4, e5, e6]
    have h1 : (0 < nw (3 + 2 * i + 0)) = ¬ ca i = 0 := by
      rw [hi'.1]
      exact propext ⟨fun p e => by rw [e] at p; exact absurd p (by decide), fun p => by
        rcases Int32.lt_or_eq_of_le (Int32.not_lt.mp hi'.2) with r | r
        · exact r
        · exact absurd r.symm p⟩
    have hd2 : nI (co * ky + kx) - nI ky * nI co = nI kx := by
      have := hd.2
      rw [hd.1] at this
      exact this
    have ex : (if 0 ≤ x - (nI kx + nw 2 * eaw (nw 1)) then x - (nI kx + nw 2 * eaw (nw 1)) else 0 - (x - (nI kx + nw 2 * eaw (nw 1)))) = xabs (nI kx - (x - eaw (nw 1) * nw 2)) := ar_x x (nI kx) (nw 2) (eaw (nw 1))
    have ey : (if 0 ≤ y - (nI ky + nw 2 * sow (nw 1)) then y - (nI ky + nw 2 * sow (nw 1)) else 0 - (y - (nI ky + nw 2 * sow (nw 1)))) = xabs (nI ky - (y - sow (nw 1) * nw 2)) := ar_x y (nI ky) (nw 2) (sow (nw 1))
    by_cases p : ca i = 0
    · rw [if_neg (by rw [h1]; exact not_not_intro p), if_pos p, hd2, ex, ey]
    · rw [if_pos (by rw [h1]; exact p), if_neg p]
theorem f_M_aroma (hM : kM H K g q) (hK : mK K) (nk : Nat) (hR : kRk b s g q nk) (a : Nat → Nat → Int32) (t : Nat → Int32) (hc : ∀ k, k < nk → nw (3 + 2 * k + 0) = a 0 k ∧ ¬ a 0 k < 0) (h1 : nw 1 = t 0) (h2 : nw 2 = t 1) (x y : Int32) :
    xcall E xprog (d + 2) 168 [.ref 63, .int x, .int y] (mH H K th sz ea tp nw kp wc sk) Q = Q (.inl (some (.int (aroC a t b nk x y))), (mH H K th sz ea tp nw kp wc sk)) := by
  rw [e_M_aroma, s_M_aroma_0, s_M_aroma_1, s_M_aroma_2, s_M_aroma_3]
  rw [show (some (Value.int 0)) = some (.int (nI 0)) from rfl, l_M_aroma hM hK nk hR (a 0) hc x y nk 0 _ _ _ (by omega), h1, h2]
  rfl
end MAROMA
