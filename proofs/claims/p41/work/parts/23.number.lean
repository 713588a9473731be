/-! ===== a rule's number ===== -/
section TELL
variable {E : xE} {d : Nat} {Q : xR → Prop} {H : xH} {K B : Nat} {b : Nat → Nat → Int32} {nm : Nat → Int64} {s : Nat → Int32} {a : Nat → Nat → Int32} {t : Nat → Int32} {ms sk : Nat → Int32} {h : Int32}
variable {K' : Nat}
/-- one step of a rule over the stack -/
def rst (ms : Nat → Int32) (k v : Int32) (p : stk) : stk :=
  if k = 2 then pshR p v else if ¬ k < 116 ∧ ¬ 125 < k then pshR p (ms (k - 116).toNatClampNeg)
  else if k = 4 then pshR (popR p) (-popV p) else if k = 113 then pshR (popR p) (xb (popV p = 0))
  else if k = 108 then pshR (popR (popR (popR p))) (if popV (popR (popR p)) = 0 then popV p else popV (popR p))
  else pshR (popR (popR p)) (joC k (popV (popR p)) (popV p))
/-- m steps from step i on -/
def rrn (ms : Nat → Int32) (kd nu : Nat → Int32) : Nat → Nat → stk → stk
  | _, 0, p => p
  | i, m + 1, p => rrn ms kd nu (i + 1) m (rst ms (kd i) (nu i) p)
theorem rst_h (ms : Nat → Int32) (k v : Int32) (p : stk) (h : p.2 ≤ 400) : (rst ms k v p).2 ≤ 400 := by
  unfold rst
  repeat' split
  all_goals first | exact pshR_h _ _ h | exact pshR_h _ _ (popR_h _ h) | exact pshR_h _ _ (popR_h _ (popR_h _ (popR_h _ h))) | exact pshR_h _ _ (popR_h _ (popR_h _ h))
theorem ms_is {k : Int32} (h1 : ¬ k < 116) (h2 : ¬ 125 < k) : k = 116 ∨ k = 117 ∨ k = 118 ∨ k = 119 ∨ k = 120 ∨ k = 121 ∨ k = 122 ∨ k = 123 ∨ k = 124 ∨ k = 125 := by
  have e1 : ¬ k.toInt < 116 := fun e => h1 (Int32.lt_iff_toInt_lt.mpr e)
  have e2 : ¬ 125 < k.toInt := fun e => h2 (Int32.lt_iff_toInt_lt.mpr e)
  have h : k.toInt = 116 ∨ k.toInt = 117 ∨ k.toInt = 118 ∨ k.toInt = 119 ∨ k.toInt = 120 ∨ k.toInt = 121 ∨ k.toInt = 122 ∨ k.toInt = 123 ∨ k.toInt = 124 ∨ k.toInt = 125 := by omega
  rcases h with h | h | h | h | h | h | h | h | h | h
  · exact Or.inl (Int32.toInt_inj.mp h)
  · exact Or.inr (Or.inl (Int32.toInt_inj.mp h))
  · exact Or.inr (Or.inr (Or.inl (Int32.toInt_inj.mp h)))
  · exact Or.inr (Or.inr (Or.inr (Or.inl (Int32.toInt_inj.mp h))))
  · exact Or.inr (Or.inr (Or.inr (Or.inr (Or.inl (Int32.toInt_inj.mp h)))))
  · exact Or.inr (Or.inr (Or.inr (Or.inr (Or.inr (Or.inl (Int32.toInt_inj.mp h))))))
  · exact Or.inr (Or.inr (Or.inr (Or.inr (Or.inr (Or.inr (Or.inl (Int32.toInt_inj.mp h)))))))
  · exact Or.inr (Or.inr (Or.inr (Or.inr (Or.inr (Or.inr (Or.inr (Or.inl (Int32.toInt_inj.mp h))))))))
  · exact Or.inr (Or.inr (Or.inr (Or.inr (Or.inr (Or.inr (Or.inr (Or.inr (Or.inl (Int32.toInt_inj.mp h)))))))))
  · exact Or.inr (Or.inr (Or.inr (Or.inr (Or.inr (Or.inr (Or.inr (Or.inr (Or.inr (Int32.toInt_inj.mp h)))))))))
theorem ms_in {k : Int32} (h1 : ¬ k < 116) (h2 : ¬ 125 < k) : vp_in (k - 116) 10 = True := by
  rcases ms_is h1 h2 with h | h | h | h | h | h | h | h | h | h <;> subst h <;> exact eq_true (by unfold vp_in; decide)
theorem l_RT_number (hB : kB H K b nm s) (hK : K < 26) (hb : 42 < B) (cnt e : Nat) (hs : s 5 = nI cnt) (hc : cnt ≤ 400) (he : e ≤ cnt) (st : Int32) : ∀ m i (p : stk) (j5 j6 j7 : Option Value), i + m = e → p.2 ≤ 400 →
    xr E (d + 1) m_RT_number Q (8, [some (.ref 40), some (.ref (K + 1)), some (.int st), some (.int (nI e)), some (.int (nI i)), j5, j6, j7], [], sH H B K' a t ms p.1 (nI p.2)) =
      Q (.inl (some (.int (popV (rrn ms (b 0) (b 1) i m p)))), sH H B K' a t ms (popR (rrn ms (b 0) (b 1) i m p)).1 (nI (popR (rrn ms (b 0) (b 1) i m p)).2)) := by
  intro m
  induction m with
  | zero =>
    intro i p j5 j6 j7 hi hp
    rw [s_RT_number_8]
    simp only [s_RT_number_0, s_RT_number_1, s_RT_number_2, s_RT_number_5, s_RT_number_6, s_RT_number_10, s_RT_number_11, s_RT_number_14, s_RT_number_16, s_RT_number_19, s_RT_number_21, s_RT_number_22, s_RT_number_25, s_RT_number_28, s_RT_number_29, s_RT_number_32, s_RT_number_34, s_RT_number_35, s_RT_number_38, s_RT_number_39, s_RT_number_41, s_RT_number_43, s_RT_number_44, s_RT_number_47, s_RT_number_48, s_RT_number_49, s_RT_number_52, s_RT_number_54, s_RT_number_55, s_RT_number_58, s_RT_number_61, s_RT_number_63, s_RT_number_65, s_RT_number_68, s_RT_number_70, s_RT_number_72, s_RT_number_75, s_RT_number_76, s_RT_number_77, s_RT_number_80, s_RT_number_82, s_RT_number_84, s_RT_number_85, s_RT_number_86, s_RT_number_89, s_RT_number_92, s_RT_number_94, s_RT_number_95, s_RT_number_98, s_RT_number_99, s_RT_number_100, s_RT_number_103, s_RT_number_104, s_RT_number_107, s_RT_number_110, s_RT_number_112, s_RT_number_114, s_RT_number_117, s_RT_number_118, s_RT_number_119, s_RT_number_122, s_RT_number_125, s_RT_number_126, s_RT_number_129, s_RT_number_130, s_RT_number_133, s_RT_number_136, s_RT_number_138, s_RT_number_140, s_RT_number_143, s_RT_number_144, s_RT_number_147, s_RT_number_149, s_RT_number_150, s_RT_number_153, s_RT_number_155, s_RT_number_156, s_RT_number_157, s_RT_number_160, s_RT_number_163, s_RT_number_165, s_RT_number_168, s_RT_number_170, s_RT_number_173, s_RT_number_176, s_RT_number_177, s_RT_number_180, s_RT_number_182, s_RT_number_183, s_RT_number_186, s_RT_number_188, s_RT_number_189, s_RT_number_191, s_RT_number_193, s_RT_number_195, s_RT_number_198, s_RT_number_201, s_RT_number_204, s_RT_number_207, s_RT_number_208, s_RT_number_211, tF, tC, tl_1, tf_1, tl_2, tf_2, sH_w40, sH_w41, sH_w42, xll_4, xlg_4_0, xlg_4_1, xlg_4_2, xls_4_0, xls_4_1, xls_4_2, bF hB hK hb, bC hB hK hb, rF hB hK hb, rC hB hK hb, bl_0 hB hK hb, bl_1 hB hK hb, bl_2 hB hK hb, bl_3 hB hK hb, bl_4 hB hK hb, bl_5 hB hK hb, bl_6 hB hK hb, bl_7 hB hK hb, bl_8 hB hK hb, bl_9 hB hK hb, bl_10 hB hK hb, bl_11 hB hK hb, bf_0 hB hK hb, bf_1 hB hK hb, bf_2 hB hK hb, bf_3 hB hK hb, bf_4 hB hK hb, bf_5 hB hK hb, bf_6 hB hK hb, bf_7 hB hK hb, bf_8 hB hK hb, bf_9 hB hK hb, bf_10 hB hK hb, bf_11 hB hK hb, xll_1, xlg_1_0, xlg_1_1, xlg_1_2, xlg_1_3, xlg_1_4, xlg_1_5, xlg_1_6, xlg_1_7, xlg_1_8, xlg_1_9, xlg_1_10, xlg_1_11, xlg_1_12, xlg_1_13, xlg_1_14, xlg_1_15, xlg_1_16, xll_5, xlg_5_0, xlg_5_1, xlg_5_2, not_false_eq_true, Nat.reduceLT, Nat.reduceAdd, true_and, and_true, if_true, if_false, ite_true, ite_false, xnb_0, xnb_1, xnb_b, xk_v, xk_n, nge (show e ≤ i by omega) (by omega), f_RT_pop p hp, rrn]
  | succ m ih =>
    intro i p j5 j6 j7 hi hp
    have hp1 := popR_h _ hp
    have hp2 := popR_h _ hp1
    have hp3 := popR_h _ hp2
    have i1 := fun v j5 j6 j7 => ih (i + 1) (pshR p v) j5 j6 j7 (by omega) (pshR_h _ _ hp)
    have i2 := fun v j5 j6 j7 => ih (i + 1) (pshR (popR p) v) j5 j6 j7 (by omega) (pshR_h _ _ hp1)
    have i3 := fun v j5 j6 j7 => ih (i + 1) (pshR (popR (popR p)) v) j5 j6 j7 (by omega) (pshR_h _ _ hp2)
    have i4 := fun v j5 j6 j7 => ih (i + 1) (pshR (popR (popR (popR p))) v) j5 j6 j7 (by omega) (pshR_h _ _ hp3)
    rw [s_RT_number_8]
    simp only [s_RT_number_0, s_RT_number_1, s_RT_number_2, s_RT_number_5, s_RT_number_6, s_RT_number_10, s_RT_number_11, s_RT_number_14, s_RT_number_16, s_RT_number_19, s_RT_number_21, s_RT_number_22, s_RT_number_25, s_RT_number_28, s_RT_number_29, s_RT_number_32, s_RT_number_34, s_RT_number_35, s_RT_number_38, s_RT_number_39, s_RT_number_41, s_RT_number_43, s_RT_number_44, s_RT_number_47, s_RT_number_48, s_RT_number_49, s_RT_number_52, s_RT_number_54, s_RT_number_55, s_RT_number_58, s_RT_number_61, s_RT_number_63, s_RT_number_65, s_RT_number_68, s_RT_number_70, s_RT_number_72, s_RT_number_75, s_RT_number_76, s_RT_number_77, s_RT_number_80, s_RT_number_82, s_RT_number_84, s_RT_number_85, s_RT_number_86, s_RT_number_89, s_RT_number_92, s_RT_number_94, s_RT_number_95, s_RT_number_98, s_RT_number_99, s_RT_number_100, s_RT_number_103, s_RT_number_104, s_RT_number_107, s_RT_number_110, s_RT_number_112, s_RT_number_114, s_RT_number_117, s_RT_number_118, s_RT_number_119, s_RT_number_122, s_RT_number_125, s_RT_number_126, s_RT_number_129, s_RT_number_130, s_RT_number_133, s_RT_number_136, s_RT_number_138, s_RT_number_140, s_RT_number_143, s_RT_number_144, s_RT_number_147, s_RT_number_149, s_RT_number_150, s_RT_number_153, s_RT_number_155, s_RT_number_156, s_RT_number_157, s_RT_number_160, s_RT_number_163, s_RT_number_165, s_RT_number_168, s_RT_number_170, s_RT_number_173, s_RT_number_176, s_RT_number_177, s_RT_number_180, s_RT_number_182, s_RT_number_183, s_RT_number_186, s_RT_number_188, s_RT_number_189, s_RT_number_191, s_RT_number_193, s_RT_number_195, s_RT_number_198, s_RT_number_201, s_RT_number_204, s_RT_number_207, s_RT_number_208, s_RT_number_211, tF, tC, tl_1, tf_1, tl_2, tf_2, sH_w40, sH_w41, sH_w42, xll_4, xlg_4_0, xlg_4_1, xlg_4_2, xls_4_0, xls_4_1, xls_4_2, bF hB hK hb, bC hB hK hb, rF hB hK hb, rC hB hK hb, bl_0 hB hK hb, bl_1 hB hK hb, bl_2 hB hK hb, bl_3 hB hK hb, bl_4 hB hK hb, bl_5 hB hK hb, bl_6 hB hK hb, bl_7 hB hK hb, bl_8 hB hK hb, bl_9 hB hK hb, bl_10 hB hK hb, bl_11 hB hK hb, bf_0 hB hK hb, bf_1 hB hK hb, bf_2 hB hK hb, bf_3 hB hK hb, bf_4 hB hK hb, bf_5 hB hK hb, bf_6 hB hK hb, bf_7 hB hK hb, bf_8 hB hK hb, bf_9 hB hK hb, bf_10 hB hK hb, bf_11 hB hK hb, xll_1, xlg_1_0, xlg_1_1, xlg_1_2, xlg_1_3, xlg_1_4, xlg_1_5, xlg_1_6, xlg_1_7, xlg_1_8, xlg_1_9, xlg_1_10, xlg_1_11, xlg_1_12, xlg_1_13, xlg_1_14, xlg_1_15, xlg_1_16, xll_5, xlg_5_0, xlg_5_1, xlg_5_2, not_false_eq_true, Nat.reduceLT, Nat.reduceAdd, true_and, and_true, if_true, if_false, ite_true, ite_false, xnb_0, xnb_1, xnb_b, xk_v, xk_n, hs, nlt (show i < e by omega) (by omega), nI_n0 i (by omega), nlt (show i < cnt by omega) (by omega), nvp (show i < 400 by omega) n400, ncl (show i < 2147483648 by omega), f_RT_pop _ hp, f_RT_push _ hp, f_RT_pop _ hp1, f_RT_push _ hp1, f_RT_pop _ hp2, f_RT_push _ hp2, f_RT_push _ hp3, f_RT_joined, nI_1, i1, i2, i3, i4, rrn]
    by_cases q1 : b 0 i = 2
    · have e : rst ms (b 0 i) (b 1 i) p = pshR p (b 1 i) := if_pos q1
      simp only [e, if_pos q1]
    by_cases q2 : ¬ b 0 i < 116 ∧ ¬ 125 < b 0 i
    · have e : rst ms (b 0 i) (b 1 i) p = pshR p (ms (b 0 i - 116).toNatClampNeg) := (if_neg q1).trans (if_pos q2)
      simp only [e, if_neg q1, if_neg q2.1, if_neg q2.2, ms_in q2.1 q2.2, true_and]
    have e0 : ∀ X Y : Prop, (if b 0 i < 116 then X else if 125 < b 0 i then X else Y) = X := by
      intro X Y
      by_cases r1 : b 0 i < 116
      · rw [if_pos r1]
      · rw [if_neg r1, if_pos (Decidable.byContradiction fun r2 => q2 ⟨r1, r2⟩)]
    simp only [if_neg q1, e0]
    have e1 : rst ms (b 0 i) (b 1 i) p = (if b 0 i = 4 then pshR (popR p) (-popV p) else if b 0 i = 113 then pshR (popR p) (xb (popV p = 0))
  else if b 0 i = 108 then pshR (popR (popR (popR p))) (if popV (popR (popR p)) = 0 then popV p else popV (popR p))
  else pshR (popR (popR p)) (joC (b 0 i) (popV (popR p)) (popV p))) := (if_neg q1).trans (if_neg q2)
    rw [e1]
    by_cases q3 : b 0 i = 4
    · simp only [if_pos q3]
    simp only [if_neg q3]
    by_cases q4 : b 0 i = 113
    · simp only [if_pos q4]
      by_cases r : popV p = 0
      · simp only [if_pos r, xb_t r]
      · simp only [if_neg r, xb_f r]
    simp only [if_neg q4]
    by_cases q5 : b 0 i = 108
    · simp only [if_pos q5]
      by_cases r : popV (popR (popR p)) = 0
      · simp only [if_pos r]
      · simp only [if_neg r]
    simp only [if_neg q5]
theorem f_RT_number (hB : kB H K b nm s) (hK : K < 26) (hb : 42 < B) (cnt i e : Nat) (hs : s 5 = nI cnt) (hc : cnt ≤ 400) (he : e ≤ cnt) (hi : i ≤ e) :
    xcall E xprog (d + 2) 43 [.ref 40, .ref (K + 1), .int (nI i), .int (nI e)] (sH H B K' a t ms sk h) Q =
      Q (.inl (some (.int (popV (rrn ms (b 0) (b 1) i (e - i) (sk, 0))))), sH H B K' a t ms (popR (rrn ms (b 0) (b 1) i (e - i) (sk, 0))).1 (nI (popR (rrn ms (b 0) (b 1) i (e - i) (sk, 0))).2)) := by
  rw [e_RT_number]
  simp only [s_RT_number_0, s_RT_number_1, s_RT_number_2, s_RT_number_5, s_RT_number_6, tF, tC, tl_1, tf_1, tl_2, tf_2, sH_w40, sH_w41, sH_w42, xll_4, xlg_4_0, xlg_4_1, xlg_4_2, xls_4_0, xls_4_1, xls_4_2, not_false_eq_true, Nat.reduceLT, Nat.reduceAdd, true_and, and_true, if_true, if_false, ite_true, ite_false, xnb_0, xnb_1, xnb_b, xk_v, xk_n]
  exact l_RT_number hB hK hb cnt e hs hc he (nI i) (e - i) i (sk, 0) _ _ _ (by omega) (Nat.zero_le _)
end TELL
