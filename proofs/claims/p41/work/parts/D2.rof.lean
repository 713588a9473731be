/-! ===== a rule's objects tell its number ===== -/
section ROF
variable {E : xE} {d : Nat} {Q : xR → Prop} {H X : xH} {p v n m q a b lo hi k fr dp r D p1 p2 : Nat} {x y : Int32} {jk : Option Value}
theorem jo_114b (x y : Int32) : (if x < y then x else y) = if y < x then y else x := by
  by_cases h : x < y
  · rw [if_pos h, if_neg (fun z => Int32.lt_irrefl (Int32.lt_trans h z))]
  · rw [if_neg h]
    by_cases h2 : y < x
    · rw [if_pos h2]
    · rw [if_neg h2]
      exact Int32.le_antisymm (Int32.not_lt.mp h2 |> fun z => by first | exact Int32.not_lt.mp h | exact z) (by first | exact Int32.not_lt.mp h2 | exact Int32.not_lt.mp h)
theorem ro_83 {k : Nat} (h1 : 4 ≤ k) (h2 : k ≤ 15) : xr E d m_R_of Q (83, [some (.ref p1), some (.ref p2), some (.int x), some (.int y)], [.int (nI k)], H) = Q (.inl (some (.int (joC (if k = 14 then 114 else if k = 15 then 115 else nI (sgk k)) x y))), H) := by
  rcases (show k = 4 ∨ k = 5 ∨ k = 6 ∨ k = 7 ∨ k = 8 ∨ k = 9 ∨ k = 10 ∨ k = 11 ∨ k = 12 ∨ k = 13 ∨ k = 14 ∨ k = 15 by omega) with r | r | r | r | r | r | r | r | r | r | r | r <;> subst r <;> rw [s_R_of_83]
  · show xr E d m_R_of Q (144, _) = Q (.inl (some (.int (joC 43 x y))), H)
    simp only [s_R_of_144, s_R_of_145, s_R_of_146, s_R_of_147, not_false_eq_true, Nat.reduceLT, Nat.reduceAdd, true_and, and_true, if_true, if_false, ite_true, ite_false, xnb_0, xnb_1, xnb_b, xk_v, xk_n, show joC 43 x y = x + y by simp [joC]]
  · show xr E d m_R_of Q (148, _) = Q (.inl (some (.int (joC 45 x y))), H)
    simp only [s_R_of_148, s_R_of_149, s_R_of_150, s_R_of_151, not_false_eq_true, Nat.reduceLT, Nat.reduceAdd, true_and, and_true, if_true, if_false, ite_true, ite_false, xnb_0, xnb_1, xnb_b, xk_v, xk_n, show joC 45 x y = x - y by simp [joC]]
  · show xr E d m_R_of Q (152, _) = Q (.inl (some (.int (joC 42 x y))), H)
    simp only [s_R_of_152, s_R_of_153, s_R_of_154, s_R_of_155, not_false_eq_true, Nat.reduceLT, Nat.reduceAdd, true_and, and_true, if_true, if_false, ite_true, ite_false, xnb_0, xnb_1, xnb_b, xk_v, xk_n, show joC 42 x y = x * y by simp [joC]]
  · show xr E d m_R_of Q (156, _) = Q (.inl (some (.int (joC 47 x y))), H)
    simp only [s_R_of_156, s_R_of_157, s_R_of_160, s_R_of_161, s_R_of_164, s_R_of_165, s_R_of_166, s_R_of_167, not_false_eq_true, Nat.reduceLT, Nat.reduceAdd, true_and, and_true, if_true, if_false, ite_true, ite_false, xnb_0, xnb_1, xnb_b, xk_v, xk_n, show joC 47 x y = if y = 0 then 0 else x / y by simp [joC]]
    split <;> simp_all
  · show xr E d m_R_of Q (168, _) = Q (.inl (some (.int (joC 37 x y))), H)
    simp only [s_R_of_168, s_R_of_169, s_R_of_172, s_R_of_173, s_R_of_176, s_R_of_177, s_R_of_178, s_R_of_179, s_R_of_180, s_R_of_181, s_R_of_182, s_R_of_183, not_false_eq_true, Nat.reduceLT, Nat.reduceAdd, true_and, and_true, if_true, if_false, ite_true, ite_false, xnb_0, xnb_1, xnb_b, xk_v, xk_n, show joC 37 x y = if y = 0 then 0 else x - x / y * y by simp [joC]]
    split <;> simp_all
  · show xr E d m_R_of Q (184, _) = Q (.inl (some (.int (joC 60 x y))), H)
    simp only [s_R_of_184, s_R_of_185, s_R_of_186, s_R_of_189, s_R_of_190, s_R_of_193, s_R_of_194, not_false_eq_true, Nat.reduceLT, Nat.reduceAdd, true_and, and_true, if_true, if_false, ite_true, ite_false, xnb_0, xnb_1, xnb_b, xk_v, xk_n, show joC 60 x y = xb (x < y) by simp [joC]]
    by_cases h : x < y <;> simp [h, xb]
  · show xr E d m_R_of Q (195, _) = Q (.inl (some (.int (joC 62 x y))), H)
    simp only [s_R_of_195, s_R_of_196, s_R_of_197, s_R_of_200, s_R_of_201, s_R_of_204, s_R_of_205, not_false_eq_true, Nat.reduceLT, Nat.reduceAdd, true_and, and_true, if_true, if_false, ite_true, ite_false, xnb_0, xnb_1, xnb_b, xk_v, xk_n, show joC 62 x y = xb (y < x) by simp [joC]]
    by_cases h : y < x <;> simp [h, xb]
  · show xr E d m_R_of Q (206, _) = Q (.inl (some (.int (joC 61 x y))), H)
    simp only [s_R_of_206, s_R_of_207, s_R_of_208, s_R_of_211, s_R_of_212, s_R_of_215, s_R_of_216, not_false_eq_true, Nat.reduceLT, Nat.reduceAdd, true_and, and_true, if_true, if_false, ite_true, ite_false, xnb_0, xnb_1, xnb_b, xk_v, xk_n, show joC 61 x y = xb (x = y) by simp [joC]]
    by_cases h : x = y <;> simp [h, xb]
  · show xr E d m_R_of Q (217, _) = Q (.inl (some (.int (joC 112 x y))), H)
    simp only [s_R_of_217, s_R_of_218, s_R_of_221, s_R_of_222, s_R_of_225, s_R_of_226, s_R_of_229, s_R_of_230, not_false_eq_true, Nat.reduceLT, Nat.reduceAdd, true_and, and_true, if_true, if_false, ite_true, ite_false, xnb_0, xnb_1, xnb_b, xk_v, xk_n, show joC 112 x y = xb (¬ x = 0 ∧ ¬ y = 0) by simp [joC]]
    by_cases h : x = 0 <;> by_cases h3 : y = 0 <;> simp [h, h3, xb]
  · show xr E d m_R_of Q (231, _) = Q (.inl (some (.int (joC 111 x y))), H)
    simp only [s_R_of_231, s_R_of_232, s_R_of_235, s_R_of_236, s_R_of_239, s_R_of_240, s_R_of_243, s_R_of_244, not_false_eq_true, Nat.reduceLT, Nat.reduceAdd, true_and, and_true, if_true, if_false, ite_true, ite_false, xnb_0, xnb_1, xnb_b, xk_v, xk_n, show joC 111 x y = xb (¬ x = 0 ∨ ¬ y = 0) by simp [joC]]
    by_cases h : x = 0 <;> by_cases h3 : y = 0 <;> simp [h, h3, xb]
  · show xr E d m_R_of Q (245, _) = Q (.inl (some (.int (joC 114 x y))), H)
    simp only [s_R_of_245, s_R_of_246, s_R_of_247, s_R_of_250, s_R_of_251, s_R_of_254, s_R_of_255, not_false_eq_true, Nat.reduceLT, Nat.reduceAdd, true_and, and_true, if_true, if_false, ite_true, ite_false, xnb_0, xnb_1, xnb_b, xk_v, xk_n, show joC 114 x y = if y < x then y else x by simp [joC]]
    rw [← jo_114b]
    by_cases h : x < y <;> simp [h]
  · show xr E d m_R_of Q (256, _) = Q (.inl (some (.int (joC 115 x y))), H)
    simp only [s_R_of_256, s_R_of_257, s_R_of_258, s_R_of_261, s_R_of_262, s_R_of_265, s_R_of_266, not_false_eq_true, Nat.reduceLT, Nat.reduceAdd, true_and, and_true, if_true, if_false, ite_true, ite_false, xnb_0, xnb_1, xnb_b, xk_v, xk_n, show joC 115 x y = if x < y then y else x by simp [joC]]
    by_cases h : x < y <;> simp [h]
theorem r_of {ms : Nat} {g : Nat → Int32} (hm : H.1 ms = xarI 10 g) : ∀ (n fr dp p : Nat), ruH E H lo hi (n + 1) fr dp p → dp + n = 3 → ∀ Q, xcall E xprog (d + 1 + n) 108 [.ref p, .ref ms] H Q = Q (.inl (some (.int (rvl E g (n + 1) fr dp))), H) := by
  intro n
  induction n with
  | zero =>
    rintro fr dp p ⟨h1, h2, r, h, h3, h4, h5, h6, h7⟩ hd Q
    have hl := rud_leaf (E := E) (fr := fr) (dp := dp) (by omega)
    rw [e_R_of]
    unfold rvl
    by_cases c0 : rud E fr dp = 0
    · rw [if_pos c0]
      simp only [s_R_of_0, s_R_of_1, s_R_of_4, s_R_of_7, s_R_of_8, s_R_of_11, not_false_eq_true, Nat.reduceLT, Nat.reduceAdd, true_and, and_true, if_true, if_false, ite_true, ite_false, xnb_0, xnb_1, xnb_b, xk_v, xk_n, xf_of h5, xll_9, xlg_9_0, xlg_9_1, xlg_9_2, show (nI (rud E fr dp) = 0) = True by rw [c0]; exact eq_true rfl]
    · have c1 : rud E fr dp = 1 := by omega
      rw [if_neg c0, if_pos c1]
      have hr := run_1 c1
      simp only [s_R_of_0, s_R_of_1, s_R_of_4, s_R_of_7, s_R_of_8, s_R_of_11, s_R_of_12, s_R_of_13, s_R_of_16, s_R_of_17, s_R_of_20, s_R_of_21, s_R_of_22, s_R_of_25, s_R_of_26, not_false_eq_true, Nat.reduceLT, Nat.reduceAdd, true_and, and_true, if_true, if_false, ite_true, ite_false, xnb_0, xnb_1, xnb_b, xk_v, xk_n, xf_of h5, xll_9, xlg_9_0, xlg_9_1, xlg_9_2, c1, show (nI 1 = 0) = False from eq_false (by decide), show (nI 1 = 1) = True from eq_true rfl, xIl_of hm, xIf_of hm, nvp hr (by omega), ncl (show run E fr dp < 2147483648 by omega)]
  | succ n ih =>
    rintro fr dp p ⟨h1, h2, r, h, h3, h4, h5, h6, h7⟩ hd Q
    have hdo := rud_le (E := E) fr dp
    have z0 : (nI (rud E fr dp) = 0) = (rud E fr dp = 0) := nI_q (y := 0) (by omega) (by omega)
    have z1 : (nI (rud E fr dp) = 1) = (rud E fr dp = 1) := nI_q (y := 1) (by omega) (by omega)
    have z2 : (nI (rud E fr dp) = 2) = (rud E fr dp = 2) := nI_q (y := 2) (by omega) (by omega)
    have z3 : (nI (rud E fr dp) = 3) = (rud E fr dp = 3) := nI_q (y := 3) (by omega) (by omega)
    rw [show d + 1 + (n + 1) = (d + 1 + n) + 1 from rfl, e_R_of]
    unfold rvl
    by_cases c0 : rud E fr dp = 0
    · rw [if_pos c0]
      simp only [s_R_of_0, s_R_of_1, s_R_of_4, s_R_of_7, s_R_of_8, s_R_of_11, not_false_eq_true, Nat.reduceLT, Nat.reduceAdd, true_and, and_true, if_true, if_false, ite_true, ite_false, xnb_0, xnb_1, xnb_b, xk_v, xk_n, xf_of h5, xll_9, xlg_9_0, xlg_9_1, xlg_9_2, z0, eq_true c0]
    rw [if_neg c0]
    by_cases c1 : rud E fr dp = 1
    · rw [if_pos c1]
      have hr := run_1 c1
      simp only [s_R_of_0, s_R_of_1, s_R_of_4, s_R_of_7, s_R_of_8, s_R_of_11, s_R_of_12, s_R_of_13, s_R_of_16, s_R_of_17, s_R_of_20, s_R_of_21, s_R_of_22, s_R_of_25, s_R_of_26, not_false_eq_true, Nat.reduceLT, Nat.reduceAdd, true_and, and_true, if_true, if_false, ite_true, ite_false, xnb_0, xnb_1, xnb_b, xk_v, xk_n, xf_of h5, xll_9, xlg_9_0, xlg_9_1, xlg_9_2, z0, z1, c1, eq_false (show ¬ (1 : Nat) = 0 by decide), show (nI 1 = 0) = False from eq_false (by decide), show (nI 1 = 1) = True from eq_true rfl, xIl_of hm, xIf_of hm, nvp hr (by omega), ncl (show run E fr dp < 2147483648 by omega)]
    rw [if_neg c1]
    have hsub : ∀ k, k < rua E fr dp → ∃ c, h k = some c ∧ xcl H c = 9 ∧ ∀ Q, xcall E xprog (d + 1 + n) 108 [.ref c, .ref ms] H Q = Q (.inl (some (.int (rvl E g (n + 1) (fr * 2 + 3 + k) (dp + 1)))), H) := by
      intro k hk
      obtain ⟨c, c1, c2⟩ := h7 k hk
      refine ⟨c, c1, ?_, ih _ _ _ c2 (by omega)⟩
      obtain ⟨-, -, r2, h2, -, -, u1, -⟩ := c2
      exact xc_of u1
    have hu1 : 1 ≤ rua E fr dp := by
      unfold rua
      rw [if_neg (by omega)]
      repeat' split
      all_goals omega
    obtain ⟨b0, b1, b2, b3⟩ := hsub 0 hu1
    have k0 : (0 : Int32).toNatClampNeg = 0 := rfl
    have n1 : (1 : Int32).toNatClampNeg = 1 := rfl
    have n2 : (2 : Int32).toNatClampNeg = 2 := rfl
    have v0 : vp_in 0 (rua E fr dp) = True := nvp (i := 0) (by omega) (by have := rua_le (E := E) fr dp; omega)
    generalize hv0 : rvl E g (n + 1) (fr * 2 + 3) (dp + 1) = x0
    rw [show fr * 2 + 3 + 0 = fr * 2 + 3 from rfl, hv0] at b3
    by_cases c2 : rud E fr dp = 2
    · rw [if_pos c2]
      simp only [↓reduceIte, s_R_of_0, s_R_of_1, s_R_of_4, s_R_of_7, s_R_of_8, s_R_of_11, s_R_of_12, s_R_of_13, s_R_of_16, s_R_of_17, s_R_of_20, s_R_of_21, s_R_of_22, s_R_of_25, s_R_of_26, s_R_of_27, s_R_of_28, s_R_of_31, s_R_of_32, s_R_of_33, s_R_of_34, s_R_of_37, s_R_of_38, s_R_of_39, s_R_of_42, s_R_of_43, s_R_of_46, s_R_of_47, s_R_of_48, s_R_of_49, s_R_of_50, s_R_of_51, s_R_of_54, s_R_of_55, not_false_eq_true, Nat.reduceLT, Nat.reduceAdd, true_and, and_true, if_true, if_false, ite_true, ite_false, xnb_0, xnb_1, xnb_b, xk_v, xk_n, xf_of h5, xll_9, xlg_9_0, xlg_9_1, xlg_9_2, z0, z1, z2, eq_false c0, eq_false c1, eq_true c2, (xR_of h6).1, (xR_of h6).2.1, k0, v0, b1, xrf_s, b2, b3, Int32.zero_sub]
    rw [if_neg c2]
    by_cases c3 : rud E fr dp = 3
    · rw [if_pos c3]
      simp only [↓reduceIte, s_R_of_0, s_R_of_1, s_R_of_4, s_R_of_7, s_R_of_8, s_R_of_11, s_R_of_12, s_R_of_13, s_R_of_16, s_R_of_17, s_R_of_20, s_R_of_21, s_R_of_22, s_R_of_25, s_R_of_26, s_R_of_27, s_R_of_28, s_R_of_31, s_R_of_32, s_R_of_33, s_R_of_34, s_R_of_37, s_R_of_38, s_R_of_39, s_R_of_42, s_R_of_43, s_R_of_46, s_R_of_47, s_R_of_48, s_R_of_49, s_R_of_50, s_R_of_51, s_R_of_54, s_R_of_55, s_R_of_58, s_R_of_59, s_R_of_62, s_R_of_63, s_R_of_66, s_R_of_67, not_false_eq_true, Nat.reduceLT, Nat.reduceAdd, true_and, and_true, if_true, if_false, ite_true, ite_false, xnb_0, xnb_1, xnb_b, xk_v, xk_n, xf_of h5, xll_9, xlg_9_0, xlg_9_1, xlg_9_2, z0, z1, z2, z3, eq_false c0, eq_false c1, eq_false c2, eq_true c3, (xR_of h6).1, (xR_of h6).2.1, k0, v0, b1, xrf_s, b2, b3]
      by_cases e : x0 = 0 <;> simp [e, xb]
    rw [if_neg c3]
    have hu2 : 2 ≤ rua E fr dp := by unfold rua; rw [if_neg (by omega), if_neg (by omega)]; split <;> omega
    obtain ⟨d0, d1, d2, d3⟩ := hsub 1 hu2
    have v1 : vp_in 1 (rua E fr dp) = True := nvp (i := 1) (by omega) (by have := rua_le (E := E) fr dp; omega)
    generalize hv1 : rvl E g (n + 1) (fr * 2 + 4) (dp + 1) = x1
    rw [show fr * 2 + 3 + 1 = fr * 2 + 4 from rfl, hv1] at d3
    have main : xr E (d + 1 + n) m_R_of Q (0, [some (.ref p), some (.ref ms), none, none], [], H) = xr E (d + 1 + n) m_R_of Q (83, [some (.ref p), some (.ref ms), some (.int x0), some (.int x1)], [.int (nI (rud E fr dp))], H) := by
      simp only [↓reduceIte, s_R_of_0, s_R_of_1, s_R_of_4, s_R_of_7, s_R_of_8, s_R_of_11, s_R_of_12, s_R_of_13, s_R_of_16, s_R_of_17, s_R_of_20, s_R_of_21, s_R_of_22, s_R_of_25, s_R_of_26, s_R_of_27, s_R_of_28, s_R_of_31, s_R_of_32, s_R_of_33, s_R_of_34, s_R_of_37, s_R_of_38, s_R_of_39, s_R_of_42, s_R_of_43, s_R_of_46, s_R_of_47, s_R_of_48, s_R_of_49, s_R_of_50, s_R_of_51, s_R_of_54, s_R_of_55, s_R_of_58, s_R_of_59, s_R_of_62, s_R_of_63, s_R_of_66, s_R_of_67, s_R_of_68, s_R_of_69, s_R_of_72, s_R_of_73, s_R_of_74, s_R_of_75, s_R_of_78, s_R_of_79, s_R_of_80, not_false_eq_true, Nat.reduceLT, Nat.reduceAdd, true_and, and_true, if_true, if_false, ite_true, ite_false, xnb_0, xnb_1, xnb_b, xk_v, xk_n, xf_of h5, xll_9, xlg_9_0, xlg_9_1, xlg_9_2, z0, z1, z2, z3, eq_false c0, eq_false c1, eq_false c2, eq_false c3, (xR_of h6).1, (xR_of h6).2.1, k0, n1, v0, v1, b1, d1, xrf_s, b2, b3, d2, d3]
    by_cases c16 : rud E fr dp = 16
    · rw [if_neg (by omega), if_neg (by omega), if_pos c16]
      have hu3 : 3 ≤ rua E fr dp := by unfold rua; rw [if_neg (by omega), if_neg (by omega), if_neg (by omega)]; omega
      obtain ⟨f0, f1, f2, f3⟩ := hsub 2 hu3
      have v2 : vp_in 2 (rua E fr dp) = True := nvp (i := 2) (by omega) (by have := rua_le (E := E) fr dp; omega)
      generalize hv2 : rvl E g (n + 1) (fr * 2 + 5) (dp + 1) = x2
      rw [show fr * 2 + 3 + 2 = fr * 2 + 5 from rfl, hv2] at f3
      refine main.trans ?_
      rw [c16, s_R_of_83]
      show xr E (d + 1 + n) m_R_of Q (267, _) = _
      simp only [↓reduceIte, s_R_of_267, s_R_of_268, s_R_of_271, s_R_of_272, s_R_of_275, s_R_of_276, s_R_of_277, s_R_of_278, s_R_of_281, s_R_of_284, s_R_of_285, not_false_eq_true, Nat.reduceLT, Nat.reduceAdd, true_and, and_true, if_true, if_false, ite_true, ite_false, xnb_0, xnb_1, xnb_b, xk_v, xk_n, xf_of h5, xll_9, xlg_9_0, xlg_9_1, xlg_9_2, (xR_of h6).1, (xR_of h6).2.1, n2, v2, f1, xrf_s, f2, f3]
      by_cases e : x0 = 0 <;> simp [e]
    · refine main.trans ((ro_83 (by omega) (by omega)).trans ?_)
      by_cases c14 : rud E fr dp = 14
      · simp only [if_pos c14]
      · by_cases c15 : rud E fr dp = 15
        · simp only [if_neg c14, if_pos c15]
        · simp only [if_neg c14, if_neg c15, if_neg c16]
end ROF
