/-! ===== the teller ===== -/
section TELL
variable {E : xE} {d : Nat} {Q : xR → Prop} {H : xH} {K B : Nat} {b : Nat → Nat → Int32} {nm : Nat → Int64} {s : Nat → Int32} {a : Nat → Nat → Int32} {t : Nat → Int32} {ms sk : Nat → Int32} {h : Int32}
/-- the stack: its cells and how many of them it holds -/
abbrev stk := (Nat → Int32) × Nat
def pshR (p : stk) (v : Int32) : stk := if p.2 < 400 then (upd p.1 p.2 v, p.2 + 1) else p
def popV (p : stk) : Int32 := if p.2 < 1 then 0 else p.1 (p.2 - 1)
def popR (p : stk) : stk := if p.2 < 1 then p else (p.1, p.2 - 1)
theorem popR_h (p : stk) (h : p.2 ≤ 400) : (popR p).2 ≤ 400 := by
  unfold popR
  split
  · exact h
  · show p.2 - 1 ≤ 400
    omega
theorem pshR_h (p : stk) (v : Int32) (h : p.2 ≤ 400) : (pshR p v).2 ≤ 400 := by
  unfold pshR
  split
  · show p.2 + 1 ≤ 400
    omega
  · exact h
theorem s_RT_push_15 {v : Int32} {ls : List (Option Value)} : xr E d m_RT_push Q (15, ls, [.ref 42, .int v], (sH H B K a t ms sk h)) = xr E d m_RT_push Q (16, ls, [.int (nI 400), .int v], (sH H B K a t ms sk h)) := xr_n1 rfl
theorem s_RT_pop_16 {v : Int32} {ls : List (Option Value)} : xr E d m_RT_pop Q (16, ls, [.ref 42, .int v], (sH H B K a t ms sk h)) = xr E d m_RT_pop Q (17, ls, [.int (nI 400), .int v], (sH H B K a t ms sk h)) := xr_n1 rfl
theorem n400 : (400 : Nat) < 2147483648 := by decide
theorem nI_n0 (i : Nat) (h : i < 2147483648) : (nI i < 0) = False := nge (i := i) (n := 0) (Nat.zero_le _) h
theorem nI_l1 (i : Nat) (h : i < 2147483648) : (nI i < 1) = (i < 1) := by
  by_cases p : i < 1
  · rw [eq_true p]; exact nlt (i := i) (n := 1) p (by decide)
  · rw [eq_false p]; exact nge (i := i) (n := 1) (by omega) h
theorem nI_m (i : Nat) (h : 1 ≤ i) (hi : i < 2147483648) : nI i - 1 = nI (i - 1) := by
  have := nI_1 (a := i - 1)
  rw [show i - 1 + 1 = i by omega] at this
  rw [← this]
  exact Int32.add_sub_cancel _ _
theorem f_RT_push (p : stk) (hp : p.2 ≤ 400) (v : Int32) :
    xcall E xprog (d + 1) 44 [.ref 40, .int v] (sH H B K a t ms p.1 (nI p.2)) Q = Q (.inl none, sH H B K a t ms (pshR p v).1 (nI (pshR p v).2)) := by
  rw [e_RT_push]
  by_cases q : p.2 < 400
  · simp only [s_RT_push_0, s_RT_push_1, s_RT_push_4, s_RT_push_7, s_RT_push_8, s_RT_push_11, s_RT_push_12, s_RT_push_16, s_RT_push_19, s_RT_push_20, s_RT_push_23, s_RT_push_24, s_RT_push_27, s_RT_push_28, s_RT_push_29, s_RT_push_30, s_RT_push_31, s_RT_push_34, s_RT_push_35, s_RT_push_36, s_RT_push_39, s_RT_push_15, tF, tC, tl_1, tf_1, tl_2, tf_2, sH_w40, sH_w41, sH_w42, xll_4, xlg_4_0, xlg_4_1, xlg_4_2, xls_4_0, xls_4_1, xls_4_2, not_false_eq_true, Nat.reduceLT, Nat.reduceAdd, true_and, and_true, if_true, if_false, ite_true, ite_false, xnb_0, xnb_1, xnb_b, xk_v, xk_n, pshR, if_pos q, nI_n0 p.2 (by omega), nlt q n400, ncl (show p.2 < 2147483648 by omega), nvp q n400, nI_1]
  · simp only [s_RT_push_0, s_RT_push_1, s_RT_push_4, s_RT_push_7, s_RT_push_8, s_RT_push_11, s_RT_push_12, s_RT_push_16, s_RT_push_19, s_RT_push_20, s_RT_push_23, s_RT_push_24, s_RT_push_27, s_RT_push_28, s_RT_push_29, s_RT_push_30, s_RT_push_31, s_RT_push_34, s_RT_push_35, s_RT_push_36, s_RT_push_39, s_RT_push_15, tF, tC, tl_1, tf_1, tl_2, tf_2, sH_w40, sH_w41, sH_w42, xll_4, xlg_4_0, xlg_4_1, xlg_4_2, xls_4_0, xls_4_1, xls_4_2, not_false_eq_true, Nat.reduceLT, Nat.reduceAdd, true_and, and_true, if_true, if_false, ite_true, ite_false, xnb_0, xnb_1, xnb_b, xk_v, xk_n, pshR, if_neg q, nI_n0 p.2 (by omega), nge (show 400 ≤ p.2 by omega) (by omega)]
theorem f_RT_pop (p : stk) (hp : p.2 ≤ 400) :
    xcall E xprog (d + 1) 45 [.ref 40] (sH H B K a t ms p.1 (nI p.2)) Q = Q (.inl (some (.int (popV p))), sH H B K a t ms (popR p).1 (nI (popR p).2)) := by
  rw [e_RT_pop]
  by_cases q : p.2 < 1
  · simp only [s_RT_pop_0, s_RT_pop_1, s_RT_pop_4, s_RT_pop_5, s_RT_pop_8, s_RT_pop_9, s_RT_pop_12, s_RT_pop_13, s_RT_pop_17, s_RT_pop_20, s_RT_pop_21, s_RT_pop_22, s_RT_pop_23, s_RT_pop_24, s_RT_pop_27, s_RT_pop_28, s_RT_pop_29, s_RT_pop_32, s_RT_pop_33, s_RT_pop_36, s_RT_pop_37, s_RT_pop_40, s_RT_pop_41, s_RT_pop_16, tF, tC, tl_1, tf_1, tl_2, tf_2, sH_w40, sH_w41, sH_w42, xll_4, xlg_4_0, xlg_4_1, xlg_4_2, xls_4_0, xls_4_1, xls_4_2, not_false_eq_true, Nat.reduceLT, Nat.reduceAdd, true_and, and_true, if_true, if_false, ite_true, ite_false, xnb_0, xnb_1, xnb_b, xk_v, xk_n, popR, popV, if_pos q, nI_l1 p.2 (by omega)]
  · simp only [s_RT_pop_0, s_RT_pop_1, s_RT_pop_4, s_RT_pop_5, s_RT_pop_8, s_RT_pop_9, s_RT_pop_12, s_RT_pop_13, s_RT_pop_17, s_RT_pop_20, s_RT_pop_21, s_RT_pop_22, s_RT_pop_23, s_RT_pop_24, s_RT_pop_27, s_RT_pop_28, s_RT_pop_29, s_RT_pop_32, s_RT_pop_33, s_RT_pop_36, s_RT_pop_37, s_RT_pop_40, s_RT_pop_41, s_RT_pop_16, tF, tC, tl_1, tf_1, tl_2, tf_2, sH_w40, sH_w41, sH_w42, xll_4, xlg_4_0, xlg_4_1, xlg_4_2, xls_4_0, xls_4_1, xls_4_2, not_false_eq_true, Nat.reduceLT, Nat.reduceAdd, true_and, and_true, if_true, if_false, ite_true, ite_false, xnb_0, xnb_1, xnb_b, xk_v, xk_n, popR, popV, if_neg q, nI_l1 p.2 (by omega), nge hp n400, nI_m p.2 (by omega) (by omega), nvp (show p.2 - 1 < 400 by omega) n400, ncl (show p.2 - 1 < 2147483648 by omega)]
def joC (g l r : Int32) : Int32 :=
  if g = 111 then xb (¬ l = 0 ∨ ¬ r = 0) else if g = 112 then xb (¬ l = 0 ∧ ¬ r = 0) else if g = 114 then (if r < l then r else l) else if g = 115 then (if l < r then r else l)
  else if g = 60 then xb (l < r) else if g = 62 then xb (r < l) else if g = 61 then xb (l = r) else if g = 43 then l + r else if g = 45 then l - r else if g = 42 then l * r
  else if g = 47 then (if r = 0 then 0 else l / r) else if g = 37 then (if r = 0 then 0 else l - l / r * r) else 0
theorem jo_111 (l r : Int32) : xcall E xprog (d + 1) 46 [.int 111, .int l, .int r] H Q = Q (.inl (some (.int (xb (¬ l = 0 ∨ ¬ r = 0)))), H) := by
  rw [e_RT_joined, s_RT_joined_0, s_RT_joined_1]
  change (0 ≤ (108 : Int) ∧ xr E d m_RT_joined Q (108, [some (.int 111), some (.int l), some (.int r)], [], H)) = _
  rw [eq_true (show 0 ≤ (108 : Int) by decide), true_and]
  simp only [s_RT_joined_108, s_RT_joined_109, s_RT_joined_112, s_RT_joined_113, s_RT_joined_116, s_RT_joined_117, s_RT_joined_120, s_RT_joined_121, s_RT_joined_122, s_RT_joined_123, s_RT_joined_126, s_RT_joined_127, s_RT_joined_130, s_RT_joined_131, s_RT_joined_134, s_RT_joined_135, s_RT_joined_136, s_RT_joined_137, s_RT_joined_138, s_RT_joined_141, s_RT_joined_142, s_RT_joined_143, s_RT_joined_144, s_RT_joined_147, not_false_eq_true, Nat.reduceLT, Nat.reduceAdd, true_and, and_true, if_true, if_false, ite_true, ite_false, xnb_0, xnb_1, xnb_b, xk_v, xk_n]
  try
    repeat' split
    all_goals simp_all [xb, -Int32.not_lt]
theorem jo_112 (l r : Int32) : xcall E xprog (d + 1) 46 [.int 112, .int l, .int r] H Q = Q (.inl (some (.int (xb (¬ l = 0 ∧ ¬ r = 0)))), H) := by
  rw [e_RT_joined, s_RT_joined_0, s_RT_joined_1]
  change (0 ≤ (122 : Int) ∧ xr E d m_RT_joined Q (122, [some (.int 112), some (.int l), some (.int r)], [], H)) = _
  rw [eq_true (show 0 ≤ (122 : Int) by decide), true_and]
  simp only [s_RT_joined_122, s_RT_joined_123, s_RT_joined_126, s_RT_joined_127, s_RT_joined_130, s_RT_joined_131, s_RT_joined_134, s_RT_joined_135, s_RT_joined_136, s_RT_joined_137, s_RT_joined_138, s_RT_joined_141, s_RT_joined_142, s_RT_joined_143, s_RT_joined_144, s_RT_joined_147, s_RT_joined_148, s_RT_joined_149, s_RT_joined_150, s_RT_joined_153, s_RT_joined_154, s_RT_joined_157, s_RT_joined_158, s_RT_joined_159, s_RT_joined_160, s_RT_joined_161, not_false_eq_true, Nat.reduceLT, Nat.reduceAdd, true_and, and_true, if_true, if_false, ite_true, ite_false, xnb_0, xnb_1, xnb_b, xk_v, xk_n]
  try
    repeat' split
    all_goals simp_all [xb, -Int32.not_lt]
theorem jo_114 (l r : Int32) : xcall E xprog (d + 1) 46 [.int 114, .int l, .int r] H Q = Q (.inl (some (.int (if r < l then r else l))), H) := by
  rw [e_RT_joined, s_RT_joined_0, s_RT_joined_1]
  change (0 ≤ (136 : Int) ∧ xr E d m_RT_joined Q (136, [some (.int 114), some (.int l), some (.int r)], [], H)) = _
  rw [eq_true (show 0 ≤ (136 : Int) by decide), true_and]
  simp only [s_RT_joined_136, s_RT_joined_137, s_RT_joined_138, s_RT_joined_141, s_RT_joined_142, s_RT_joined_143, s_RT_joined_144, s_RT_joined_147, s_RT_joined_148, s_RT_joined_149, s_RT_joined_150, s_RT_joined_153, s_RT_joined_154, s_RT_joined_157, s_RT_joined_158, s_RT_joined_159, s_RT_joined_160, s_RT_joined_161, s_RT_joined_164, s_RT_joined_165, s_RT_joined_168, s_RT_joined_169, s_RT_joined_170, s_RT_joined_171, s_RT_joined_172, s_RT_joined_175, not_false_eq_true, Nat.reduceLT, Nat.reduceAdd, true_and, and_true, if_true, if_false, ite_true, ite_false, xnb_0, xnb_1, xnb_b, xk_v, xk_n]
  try
    repeat' split
    all_goals simp_all [xb, -Int32.not_lt]
theorem jo_115 (l r : Int32) : xcall E xprog (d + 1) 46 [.int 115, .int l, .int r] H Q = Q (.inl (some (.int (if l < r then r else l))), H) := by
  rw [e_RT_joined, s_RT_joined_0, s_RT_joined_1]
  change (0 ≤ (142 : Int) ∧ xr E d m_RT_joined Q (142, [some (.int 115), some (.int l), some (.int r)], [], H)) = _
  rw [eq_true (show 0 ≤ (142 : Int) by decide), true_and]
  simp only [s_RT_joined_142, s_RT_joined_143, s_RT_joined_144, s_RT_joined_147, s_RT_joined_148, s_RT_joined_149, s_RT_joined_150, s_RT_joined_153, s_RT_joined_154, s_RT_joined_157, s_RT_joined_158, s_RT_joined_159, s_RT_joined_160, s_RT_joined_161, s_RT_joined_164, s_RT_joined_165, s_RT_joined_168, s_RT_joined_169, s_RT_joined_170, s_RT_joined_171, s_RT_joined_172, s_RT_joined_175, s_RT_joined_176, s_RT_joined_179, s_RT_joined_180, s_RT_joined_181, not_false_eq_true, Nat.reduceLT, Nat.reduceAdd, true_and, and_true, if_true, if_false, ite_true, ite_false, xnb_0, xnb_1, xnb_b, xk_v, xk_n]
  try
    repeat' split
    all_goals simp_all [xb, -Int32.not_lt]
theorem jo_60 (l r : Int32) : xcall E xprog (d + 1) 46 [.int 60, .int l, .int r] H Q = Q (.inl (some (.int (xb (l < r)))), H) := by
  rw [e_RT_joined, s_RT_joined_0, s_RT_joined_1]
  change (0 ≤ (148 : Int) ∧ xr E d m_RT_joined Q (148, [some (.int 60), some (.int l), some (.int r)], [], H)) = _
  rw [eq_true (show 0 ≤ (148 : Int) by decide), true_and]
  simp only [s_RT_joined_148, s_RT_joined_149, s_RT_joined_150, s_RT_joined_153, s_RT_joined_154, s_RT_joined_157, s_RT_joined_158, s_RT_joined_159, s_RT_joined_160, s_RT_joined_161, s_RT_joined_164, s_RT_joined_165, s_RT_joined_168, s_RT_joined_169, s_RT_joined_170, s_RT_joined_171, s_RT_joined_172, s_RT_joined_175, s_RT_joined_176, s_RT_joined_179, s_RT_joined_180, s_RT_joined_181, s_RT_joined_182, s_RT_joined_183, s_RT_joined_184, s_RT_joined_185, s_RT_joined_186, s_RT_joined_187, not_false_eq_true, Nat.reduceLT, Nat.reduceAdd, true_and, and_true, if_true, if_false, ite_true, ite_false, xnb_0, xnb_1, xnb_b, xk_v, xk_n]
  try
    repeat' split
    all_goals simp_all [xb, -Int32.not_lt]
theorem jo_62 (l r : Int32) : xcall E xprog (d + 1) 46 [.int 62, .int l, .int r] H Q = Q (.inl (some (.int (xb (r < l)))), H) := by
  rw [e_RT_joined, s_RT_joined_0, s_RT_joined_1]
  change (0 ≤ (159 : Int) ∧ xr E d m_RT_joined Q (159, [some (.int 62), some (.int l), some (.int r)], [], H)) = _
  rw [eq_true (show 0 ≤ (159 : Int) by decide), true_and]
  simp only [s_RT_joined_159, s_RT_joined_160, s_RT_joined_161, s_RT_joined_164, s_RT_joined_165, s_RT_joined_168, s_RT_joined_169, s_RT_joined_170, s_RT_joined_171, s_RT_joined_172, s_RT_joined_175, s_RT_joined_176, s_RT_joined_179, s_RT_joined_180, s_RT_joined_181, s_RT_joined_182, s_RT_joined_183, s_RT_joined_184, s_RT_joined_185, s_RT_joined_186, s_RT_joined_187, s_RT_joined_188, s_RT_joined_189, s_RT_joined_190, s_RT_joined_191, s_RT_joined_192, s_RT_joined_193, s_RT_joined_194, s_RT_joined_197, s_RT_joined_198, not_false_eq_true, Nat.reduceLT, Nat.reduceAdd, true_and, and_true, if_true, if_false, ite_true, ite_false, xnb_0, xnb_1, xnb_b, xk_v, xk_n]
  try
    repeat' split
    all_goals simp_all [xb, -Int32.not_lt]
theorem jo_61 (l r : Int32) : xcall E xprog (d + 1) 46 [.int 61, .int l, .int r] H Q = Q (.inl (some (.int (xb (l = r)))), H) := by
  rw [e_RT_joined, s_RT_joined_0, s_RT_joined_1]
  change (0 ≤ (170 : Int) ∧ xr E d m_RT_joined Q (170, [some (.int 61), some (.int l), some (.int r)], [], H)) = _
  rw [eq_true (show 0 ≤ (170 : Int) by decide), true_and]
  simp only [s_RT_joined_170, s_RT_joined_171, s_RT_joined_172, s_RT_joined_175, s_RT_joined_176, s_RT_joined_179, s_RT_joined_180, s_RT_joined_181, s_RT_joined_182, s_RT_joined_183, s_RT_joined_184, s_RT_joined_185, s_RT_joined_186, s_RT_joined_187, s_RT_joined_188, s_RT_joined_189, s_RT_joined_190, s_RT_joined_191, s_RT_joined_192, s_RT_joined_193, s_RT_joined_194, s_RT_joined_197, s_RT_joined_198, s_RT_joined_201, s_RT_joined_202, s_RT_joined_203, s_RT_joined_204, s_RT_joined_205, s_RT_joined_206, s_RT_joined_209, not_false_eq_true, Nat.reduceLT, Nat.reduceAdd, true_and, and_true, if_true, if_false, ite_true, ite_false, xnb_0, xnb_1, xnb_b, xk_v, xk_n]
  try
    repeat' split
    all_goals simp_all [xb, -Int32.not_lt]
theorem jo_43 (l r : Int32) : xcall E xprog (d + 1) 46 [.int 43, .int l, .int r] H Q = Q (.inl (some (.int (l + r))), H) := by
  rw [e_RT_joined, s_RT_joined_0, s_RT_joined_1]
  change (0 ≤ (181 : Int) ∧ xr E d m_RT_joined Q (181, [some (.int 43), some (.int l), some (.int r)], [], H)) = _
  rw [eq_true (show 0 ≤ (181 : Int) by decide), true_and]
  simp only [s_RT_joined_181, s_RT_joined_182, s_RT_joined_183, s_RT_joined_184, s_RT_joined_185, s_RT_joined_186, s_RT_joined_187, s_RT_joined_188, s_RT_joined_189, s_RT_joined_190, s_RT_joined_191, s_RT_joined_192, s_RT_joined_193, s_RT_joined_194, s_RT_joined_197, s_RT_joined_198, s_RT_joined_201, s_RT_joined_202, s_RT_joined_203, s_RT_joined_204, s_RT_joined_205, s_RT_joined_206, s_RT_joined_209, s_RT_joined_210, s_RT_joined_213, s_RT_joined_214, s_RT_joined_215, s_RT_joined_216, s_RT_joined_217, s_RT_joined_218, not_false_eq_true, Nat.reduceLT, Nat.reduceAdd, true_and, and_true, if_true, if_false, ite_true, ite_false, xnb_0, xnb_1, xnb_b, xk_v, xk_n]
  try
    repeat' split
    all_goals simp_all [xb, -Int32.not_lt]
theorem jo_45 (l r : Int32) : xcall E xprog (d + 1) 46 [.int 45, .int l, .int r] H Q = Q (.inl (some (.int (l - r))), H) := by
  rw [e_RT_joined, s_RT_joined_0, s_RT_joined_1]
  change (0 ≤ (185 : Int) ∧ xr E d m_RT_joined Q (185, [some (.int 45), some (.int l), some (.int r)], [], H)) = _
  rw [eq_true (show 0 ≤ (185 : Int) by decide), true_and]
  simp only [s_RT_joined_185, s_RT_joined_186, s_RT_joined_187, s_RT_joined_188, s_RT_joined_189, s_RT_joined_190, s_RT_joined_191, s_RT_joined_192, s_RT_joined_193, s_RT_joined_194, s_RT_joined_197, s_RT_joined_198, s_RT_joined_201, s_RT_joined_202, s_RT_joined_203, s_RT_joined_204, s_RT_joined_205, s_RT_joined_206, s_RT_joined_209, s_RT_joined_210, s_RT_joined_213, s_RT_joined_214, s_RT_joined_215, s_RT_joined_216, s_RT_joined_217, s_RT_joined_218, not_false_eq_true, Nat.reduceLT, Nat.reduceAdd, true_and, and_true, if_true, if_false, ite_true, ite_false, xnb_0, xnb_1, xnb_b, xk_v, xk_n]
  try
    repeat' split
    all_goals simp_all [xb, -Int32.not_lt]
theorem jo_42 (l r : Int32) : xcall E xprog (d + 1) 46 [.int 42, .int l, .int r] H Q = Q (.inl (some (.int (l * r))), H) := by
  rw [e_RT_joined, s_RT_joined_0, s_RT_joined_1]
  change (0 ≤ (189 : Int) ∧ xr E d m_RT_joined Q (189, [some (.int 42), some (.int l), some (.int r)], [], H)) = _
  rw [eq_true (show 0 ≤ (189 : Int) by decide), true_and]
  simp only [s_RT_joined_189, s_RT_joined_190, s_RT_joined_191, s_RT_joined_192, s_RT_joined_193, s_RT_joined_194, s_RT_joined_197, s_RT_joined_198, s_RT_joined_201, s_RT_joined_202, s_RT_joined_203, s_RT_joined_204, s_RT_joined_205, s_RT_joined_206, s_RT_joined_209, s_RT_joined_210, s_RT_joined_213, s_RT_joined_214, s_RT_joined_215, s_RT_joined_216, s_RT_joined_217, s_RT_joined_218, not_false_eq_true, Nat.reduceLT, Nat.reduceAdd, true_and, and_true, if_true, if_false, ite_true, ite_false, xnb_0, xnb_1, xnb_b, xk_v, xk_n]
  try
    repeat' split
    all_goals simp_all [xb, -Int32.not_lt]
theorem jo_47 (l r : Int32) : xcall E xprog (d + 1) 46 [.int 47, .int l, .int r] H Q = Q (.inl (some (.int (if r = 0 then 0 else l / r))), H) := by
  rw [e_RT_joined, s_RT_joined_0, s_RT_joined_1]
  change (0 ≤ (193 : Int) ∧ xr E d m_RT_joined Q (193, [some (.int 47), some (.int l), some (.int r)], [], H)) = _
  rw [eq_true (show 0 ≤ (193 : Int) by decide), true_and]
  simp only [s_RT_joined_193, s_RT_joined_194, s_RT_joined_197, s_RT_joined_198, s_RT_joined_201, s_RT_joined_202, s_RT_joined_203, s_RT_joined_204, s_RT_joined_205, s_RT_joined_206, s_RT_joined_209, s_RT_joined_210, s_RT_joined_213, s_RT_joined_214, s_RT_joined_215, s_RT_joined_216, s_RT_joined_217, s_RT_joined_218, not_false_eq_true, Nat.reduceLT, Nat.reduceAdd, true_and, and_true, if_true, if_false, ite_true, ite_false, xnb_0, xnb_1, xnb_b, xk_v, xk_n]
  try
    repeat' split
    all_goals simp_all [xb, -Int32.not_lt]
theorem jo_37 (l r : Int32) : xcall E xprog (d + 1) 46 [.int 37, .int l, .int r] H Q = Q (.inl (some (.int (if r = 0 then 0 else l - l / r * r))), H) := by
  rw [e_RT_joined, s_RT_joined_0, s_RT_joined_1]
  change (0 ≤ (205 : Int) ∧ xr E d m_RT_joined Q (205, [some (.int 37), some (.int l), some (.int r)], [], H)) = _
  rw [eq_true (show 0 ≤ (205 : Int) by decide), true_and]
  simp only [s_RT_joined_205, s_RT_joined_206, s_RT_joined_209, s_RT_joined_210, s_RT_joined_213, s_RT_joined_214, s_RT_joined_215, s_RT_joined_216, s_RT_joined_217, s_RT_joined_218, not_false_eq_true, Nat.reduceLT, Nat.reduceAdd, true_and, and_true, if_true, if_false, ite_true, ite_false, xnb_0, xnb_1, xnb_b, xk_v, xk_n]
  try
    repeat' split
    all_goals simp_all [xb, -Int32.not_lt]
theorem sw_k {g : Int32} (k : Int32) (z : Int) (hz : k.toInt = z) (h : ¬ g = k) : (z = g.toInt) = False := eq_false (fun e => h (Int32.toInt_inj.mp (by rw [hz, e])))
theorem f_RT_joined (g l r : Int32) :
    xcall E xprog (d + 1) 46 [.int g, .int l, .int r] H Q = Q (.inl (some (.int (joC g l r))), H) := by
  by_cases h111 : g = 111
  · subst h111
    exact jo_111 l r
  by_cases h112 : g = 112
  · subst h112
    exact jo_112 l r
  by_cases h114 : g = 114
  · subst h114
    exact jo_114 l r
  by_cases h115 : g = 115
  · subst h115
    exact jo_115 l r
  by_cases h60 : g = 60
  · subst h60
    exact jo_60 l r
  by_cases h62 : g = 62
  · subst h62
    exact jo_62 l r
  by_cases h61 : g = 61
  · subst h61
    exact jo_61 l r
  by_cases h43 : g = 43
  · subst h43
    exact jo_43 l r
  by_cases h45 : g = 45
  · subst h45
    exact jo_45 l r
  by_cases h42 : g = 42
  · subst h42
    exact jo_42 l r
  by_cases h47 : g = 47
  · subst h47
    exact jo_47 l r
  by_cases h37 : g = 37
  · subst h37
    exact jo_37 l r
  rw [e_RT_joined, s_RT_joined_0, s_RT_joined_1]
  simp only [lookupswitch.offset_cons, lookupswitch.offset_nil, sw_k 111 111 rfl h111, sw_k 112 112 rfl h112, sw_k 114 114 rfl h114, sw_k 115 115 rfl h115, sw_k 60 60 rfl h60, sw_k 62 62 rfl h62, sw_k 61 61 rfl h61, sw_k 43 43 rfl h43, sw_k 45 45 rfl h45, sw_k 42 42 rfl h42, sw_k 47 47 rfl h47, sw_k 37 37 rfl h37, if_false]
  change (0 ≤ (217 : Int) ∧ xr E d m_RT_joined Q (217, [some (.int g), some (.int l), some (.int r)], [], H)) = _
  rw [eq_true (show 0 ≤ (217 : Int) by decide), true_and]
  simp only [s_RT_joined_217, s_RT_joined_218, joC, if_neg h111, if_neg h112, if_neg h114, if_neg h115, if_neg h60, if_neg h62, if_neg h61, if_neg h43, if_neg h45, if_neg h42, if_neg h47, if_neg h37]
end TELL
