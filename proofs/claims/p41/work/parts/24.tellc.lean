/-! ===== what a clipper's rule tells ===== -/
section TELLC
variable {E : xE} {d : Nat} {Q : xR → Prop} {H : xH} {K B : Nat} {b : Nat → Nat → Int32} {nm : Nat → Int64} {s : Nat → Int32} {a : Nat → Nat → Int32} {t : Nat → Int32} {ms sk : Nat → Int32} {h : Int32}
theorem f_RT_measure (k v : Int32) (h1 : ¬ k < 116) (h2 : ¬ 125 < k) :
    xcall E xprog (d + 1) 42 [.ref 40, .int k, .int v] (sH H B K a t ms sk h) Q = Q (.inl none, sH H B K a t (upd ms (k - 116).toNatClampNeg v) sk h) := by
  rw [e_RT_measure]
  simp only [s_RT_measure_0, s_RT_measure_1, s_RT_measure_3, s_RT_measure_6, s_RT_measure_7, s_RT_measure_9, s_RT_measure_12, s_RT_measure_13, s_RT_measure_16, s_RT_measure_17, s_RT_measure_19, s_RT_measure_20, s_RT_measure_21, s_RT_measure_22, tF, tC, tl_1, tf_1, tl_2, tf_2, sH_w40, sH_w41, sH_w42, xll_4, xlg_4_0, xlg_4_1, xlg_4_2, xls_4_0, xls_4_1, xls_4_2, not_false_eq_true, Nat.reduceLT, Nat.reduceAdd, true_and, and_true, if_true, if_false, ite_true, ite_false, xnb_0, xnb_1, xnb_b, xk_v, xk_n, if_neg h1, if_neg h2, ms_in h1 h2]
theorem m4 {i : Nat} (h : i < 4) : ¬ (116 + nI i < 116) ∧ ¬ (125 < 116 + nI i) ∧ (116 + nI i - 116).toNatClampNeg = i := by
  have p : i = 0 ∨ i = 1 ∨ i = 2 ∨ i = 3 := by omega
  rcases p with p | p | p | p <;> subst p <;> decide
def tlB (f : Nat → Int32) : Nat → Nat → Int32 → Int32 → Int32
  | _, 0, z, _ => z
  | i, m + 1, z, w => if w < f i then tlB f (i + 1) m (nI i) (f i) else tlB f (i + 1) m z w
def tlM (f : Nat → Int32) : Nat → Nat → (Nat → Int32) → Nat → Int32
  | _, 0, ms => ms
  | i, m + 1, ms => tlM f (i + 1) m (upd ms i (f i))
def tlW (f : Nat → Int32) : Nat → Nat → Int32 → Int32
  | _, 0, w => w
  | i, m + 1, w => tlW f (i + 1) m (if w < f i then f i else w)
def tlJ (f : Nat → Int32) : Nat → Nat → Option Value → Option Value
  | _, 0, j => j
  | i, m + 1, _ => tlJ f (i + 1) m (some (.int (f i)))
theorem l_Bay_tell (hB : kB H K b nm s) (hK : K < 26) (hb : 42 < B) (nk : Nat) (hn : s 2 = nI nk) (hk : nk ≤ 6) (c : Nat) (hc : c < 6) (f : Nat → Int32) (hf : ∀ i, smeC a b t s nk c (nI i) = f i) : ∀ m i (ms : Nat → Int32) (z w : Int32) (j : Option Value), i + m = 4 →
    xr E (d + 3) m_Bay_tell Q (7, [some (.ref B), some (.int (nI c)), some (.int z), some (.int w), some (.int (nI i)), j], [], (sH H B K a t ms sk h)) =
    xr E (d + 3) m_Bay_tell Q (54, [some (.ref B), some (.int (nI c)), some (.int (tlB f i m z w)), some (.int (tlW f i m w)), some (.int (nI 4)), tlJ f i m j], [], sH H B K a t (tlM f i m ms) sk h) := by
  intro m
  induction m with
  | zero =>
    intro i ms z w j hi
    have : i = 4 := by omega
    subst this
    rw [s_Bay_tell_7]
    simp only [s_Bay_tell_9, s_Bay_tell_10, s_Bay_tell_13, s_Bay_tell_14, s_Bay_tell_15, s_Bay_tell_17, not_false_eq_true, Nat.reduceLT, Nat.reduceAdd, true_and, and_true, if_true, if_false, ite_true, ite_false, xnb_0, xnb_1, xnb_b, xk_v, xk_n, show (nI 4 < 4) = False from nge (n := 4) (Nat.le_refl 4) (by omega), tlB, tlW, tlJ, tlM]
  | succ m ih =>
    intro i ms z w j hi
    have p := m4 (show i < 4 by omega)
    rw [s_Bay_tell_7]
    simp only [s_Bay_tell_9, s_Bay_tell_10, s_Bay_tell_13, s_Bay_tell_14, s_Bay_tell_15, s_Bay_tell_17, s_Bay_tell_20, s_Bay_tell_22, s_Bay_tell_23, s_Bay_tell_26, s_Bay_tell_28, s_Bay_tell_30, s_Bay_tell_31, s_Bay_tell_33, s_Bay_tell_36, s_Bay_tell_38, s_Bay_tell_39, s_Bay_tell_42, s_Bay_tell_44, s_Bay_tell_45, s_Bay_tell_47, s_Bay_tell_48, s_Bay_tell_51, yF hb, yC hb, yl_0 hb, yf_0 hb, yw_0 hb, yl_1 hb, yf_1 hb, yw_1 hb, yl_2 hb, yf_2 hb, yw_2 hb, yl_3 hb, yf_3 hb, yw_3 hb, yl_4 hb, yf_4 hb, yw_4 hb, yl_5 hb, yf_5 hb, yw_5 hb, yl_6 hb, yf_6 hb, yw_6 hb, yl_7 hb, yf_7 hb, yw_7 hb, yl_8 hb, yf_8 hb, yw_8 hb, ywB hb, tri_0, tri_1, tri_2, xll_0, xlg_0_0, xlg_0_1, xlg_0_2, xlg_0_3, xlg_0_4, xlg_0_5, xlg_0_6, xlg_0_7, xlg_0_8, xlg_0_9, xlg_0_10, xlg_0_11, xlg_0_12, xlg_0_13, xls_0_0, xls_0_1, xls_0_2, xls_0_3, xls_0_4, xls_0_5, xls_0_6, xls_0_7, xls_0_8, xls_0_9, xls_0_10, xls_0_11, xls_0_12, xls_0_13, bF hB hK hb, bC hB hK hb, rF hB hK hb, rC hB hK hb, bl_0 hB hK hb, bl_1 hB hK hb, bl_2 hB hK hb, bl_3 hB hK hb, bl_4 hB hK hb, bl_5 hB hK hb, bl_6 hB hK hb, bl_7 hB hK hb, bl_8 hB hK hb, bl_9 hB hK hb, bl_10 hB hK hb, bl_11 hB hK hb, bf_0 hB hK hb, bf_1 hB hK hb, bf_2 hB hK hb, bf_3 hB hK hb, bf_4 hB hK hb, bf_5 hB hK hb, bf_6 hB hK hb, bf_7 hB hK hb, bf_8 hB hK hb, bf_9 hB hK hb, bf_10 hB hK hb, bf_11 hB hK hb, xll_1, xlg_1_0, xlg_1_1, xlg_1_2, xlg_1_3, xlg_1_4, xlg_1_5, xlg_1_6, xlg_1_7, xlg_1_8, xlg_1_9, xlg_1_10, xlg_1_11, xlg_1_12, xlg_1_13, xlg_1_14, xlg_1_15, xlg_1_16, xll_5, xlg_5_0, xlg_5_1, xlg_5_2, tF, tC, tl_1, tf_1, tl_2, tf_2, sH_w40, sH_w41, sH_w42, xll_4, xlg_4_0, xlg_4_1, xlg_4_2, xls_4_0, xls_4_1, xls_4_2, not_false_eq_true, Nat.reduceLT, Nat.reduceAdd, true_and, and_true, if_true, if_false, ite_true, ite_false, xnb_0, xnb_1, xnb_b, xk_v, xk_n, show (nI i < 4) = True from nlt (i := i) (n := 4) (show i < 4 by omega) (by omega), f_Bay_smell (sH_kB hB hK hb) (sH_kY hb) nk hn hk c hc, f_RT_measure _ _ p.1 p.2.1, p.2.2, nI_1, hf, ih (i + 1) _ _ _ _ (show i + 1 + m = 4 by omega), tlB, tlW, tlJ, tlM]
    by_cases q : w < f i
    · simp only [if_pos q]
    · simp only [if_neg q]
/-- the measures of a clipper -/
def tms (a b : Nat → Nat → Int32) (t s : Nat → Int32) (nk c : Nat) (ms : Nat → Int32) : Nat → Int32 :=
  upd (upd (upd (upd (upd (upd (tlM (fun i => smeC a b t s nk c (nI i)) 0 4 ms) 4 (aroC a t b nk (a 3 c) (a 4 c))) 5 (tlB (fun i => smeC a b t s nk c (nI i)) 0 4 0 (-1))) 6 (a 5 c)) 7 (t 2)) 8 (t 0)) 9 (t 1)
/-- the stack when a clipper's rule is told -/
def teR (a b : Nat → Nat → Int32) (t s : Nat → Int32) (nk c i e : Nat) (ms sk : Nat → Int32) : stk := rrn (tms a b t s nk c ms) (b 0) (b 1) i (e - i) (sk, 0)
theorem f_Bay_tell (hB : kB H K b nm s) (hK : K < 26) (hb : 42 < B) (nk : Nat) (hn : s 2 = nI nk) (hk : nk ≤ 6) (c : Nat) (hc : c < 6) (cnt i e : Nat) (hs : s 5 = nI cnt) (hcn : cnt ≤ 400) (he : e ≤ cnt) (hi : i ≤ e) (hi' : b 10 c = nI i) (he' : b 11 c = nI e) :
    xcall E xprog (d + 4) 8 [.ref B, .int (nI c)] (sH H B K a t ms sk h) Q =
      Q (.inl (some (.int (popV (teR a b t s nk c i e ms sk)))), sH H B K a t (tms a b t s nk c ms) (popR (teR a b t s nk c i e ms sk)).1 (nI (popR (teR a b t s nk c i e ms sk)).2)) := by
  rw [e_Bay_tell, s_Bay_tell_0, s_Bay_tell_1, s_Bay_tell_2, s_Bay_tell_3, s_Bay_tell_4, s_Bay_tell_5]
  rw [show (0 : Int32) = nI 0 from rfl, l_Bay_tell hB hK hb nk hn hk c hc (fun i => smeC a b t s nk c (nI i)) (fun _ => rfl) 4 0 _ _ _ _ rfl]
  simp only [s_Bay_tell_54, s_Bay_tell_55, s_Bay_tell_58, s_Bay_tell_60, s_Bay_tell_61, s_Bay_tell_62, s_Bay_tell_65, s_Bay_tell_66, s_Bay_tell_67, s_Bay_tell_68, s_Bay_tell_71, s_Bay_tell_72, s_Bay_tell_73, s_Bay_tell_76, s_Bay_tell_79, s_Bay_tell_80, s_Bay_tell_83, s_Bay_tell_85, s_Bay_tell_86, s_Bay_tell_89, s_Bay_tell_90, s_Bay_tell_93, s_Bay_tell_95, s_Bay_tell_96, s_Bay_tell_99, s_Bay_tell_100, s_Bay_tell_101, s_Bay_tell_104, s_Bay_tell_105, s_Bay_tell_108, s_Bay_tell_110, s_Bay_tell_111, s_Bay_tell_114, s_Bay_tell_117, s_Bay_tell_118, s_Bay_tell_121, s_Bay_tell_123, s_Bay_tell_124, s_Bay_tell_127, s_Bay_tell_130, s_Bay_tell_131, s_Bay_tell_134, s_Bay_tell_136, s_Bay_tell_137, s_Bay_tell_140, s_Bay_tell_143, s_Bay_tell_144, s_Bay_tell_147, s_Bay_tell_148, s_Bay_tell_151, s_Bay_tell_154, s_Bay_tell_155, s_Bay_tell_158, s_Bay_tell_161, s_Bay_tell_162, s_Bay_tell_163, s_Bay_tell_164, s_Bay_tell_167, s_Bay_tell_170, s_Bay_tell_171, s_Bay_tell_172, s_Bay_tell_175, yF hb, yC hb, yl_0 hb, yf_0 hb, yw_0 hb, yl_1 hb, yf_1 hb, yw_1 hb, yl_2 hb, yf_2 hb, yw_2 hb, yl_3 hb, yf_3 hb, yw_3 hb, yl_4 hb, yf_4 hb, yw_4 hb, yl_5 hb, yf_5 hb, yw_5 hb, yl_6 hb, yf_6 hb, yw_6 hb, yl_7 hb, yf_7 hb, yw_7 hb, yl_8 hb, yf_8 hb, yw_8 hb, ywB hb, tri_0, tri_1, tri_2, xll_0, xlg_0_0, xlg_0_1, xlg_0_2, xlg_0_3, xlg_0_4, xlg_0_5, xlg_0_6, xlg_0_7, xlg_0_8, xlg_0_9, xlg_0_10, xlg_0_11, xlg_0_12, xlg_0_13, xls_0_0, xls_0_1, xls_0_2, xls_0_3, xls_0_4, xls_0_5, xls_0_6, xls_0_7, xls_0_8, xls_0_9, xls_0_10, xls_0_11, xls_0_12, xls_0_13, bF hB hK hb, bC hB hK hb, rF hB hK hb, rC hB hK hb, bl_0 hB hK hb, bl_1 hB hK hb, bl_2 hB hK hb, bl_3 hB hK hb, bl_4 hB hK hb, bl_5 hB hK hb, bl_6 hB hK hb, bl_7 hB hK hb, bl_8 hB hK hb, bl_9 hB hK hb, bl_10 hB hK hb, bl_11 hB hK hb, bf_0 hB hK hb, bf_1 hB hK hb, bf_2 hB hK hb, bf_3 hB hK hb, bf_4 hB hK hb, bf_5 hB hK hb, bf_6 hB hK hb, bf_7 hB hK hb, bf_8 hB hK hb, bf_9 hB hK hb, bf_10 hB hK hb, bf_11 hB hK hb, xll_1, xlg_1_0, xlg_1_1, xlg_1_2, xlg_1_3, xlg_1_4, xlg_1_5, xlg_1_6, xlg_1_7, xlg_1_8, xlg_1_9, xlg_1_10, xlg_1_11, xlg_1_12, xlg_1_13, xlg_1_14, xlg_1_15, xlg_1_16, xll_5, xlg_5_0, xlg_5_1, xlg_5_2, tF, tC, tl_1, tf_1, tl_2, tf_2, sH_w40, sH_w41, sH_w42, xll_4, xlg_4_0, xlg_4_1, xlg_4_2, xls_4_0, xls_4_1, xls_4_2, not_false_eq_true, Nat.reduceLT, Nat.reduceAdd, true_and, and_true, if_true, if_false, ite_true, ite_false, xnb_0, xnb_1, xnb_b, xk_v, xk_n, f_RT_measure 120 _ (by decide) (by decide), f_RT_measure 121 _ (by decide) (by decide), f_RT_measure 122 _ (by decide) (by decide), f_RT_measure 123 _ (by decide) (by decide), f_RT_measure 124 _ (by decide) (by decide), f_RT_measure 125 _ (by decide) (by decide), nvp (show c < 6 by omega) (by omega), ncl (show c < 2147483648 by omega), f_Bay_aroma (sH_kB hB hK hb) (sH_kY hb) nk hn hk]
  change xcall E xprog (d + 1 + 2) 43 [.ref 40, .ref (K + 1), .int (b 10 c), .int (b 11 c)] (sH H B K a t (tms a b t s nk c ms) sk h) _ = _
  rw [hi', he', f_RT_number hB hK hb cnt i e hs hcn he hi]
  simp only [s_Bay_tell_175, not_false_eq_true, Nat.reduceLT, Nat.reduceAdd, true_and, and_true, if_true, if_false, ite_true, ite_false, xnb_0, xnb_1, xnb_b, xk_v, xk_n, teR]
end TELLC
