/-! ===== the model: two numbers joined ===== -/
section MJOIN
variable {E : xE} {d : Nat} {Q : xR → Prop} {H : xH}
theorem mj_37 (l r : Int32) : xcall E xprog (d + 1) 172 [.int 37, .int l, .int r] H Q = Q (.inl (some (.int (joC 37 l r))), H) := by
  rw [e_M_joined, s_M_joined_0, s_M_joined_1]
  change (0 ≤ (124 : Int) ∧ xr E d m_M_joined Q (124, [some (.int 37), some (.int l), some (.int r)], [], H)) = _
  rw [eq_true (show 0 ≤ (124 : Int) by decide), true_and, show joC 37 l r = (if r = 0 then 0 else l - l / r * r) from rfl]
  simp only [s_M_joined_124, s_M_joined_125, s_M_joined_128, s_M_joined_129, s_M_joined_132, s_M_joined_133, s_M_joined_134, s_M_joined_135, s_M_joined_136, s_M_joined_137, s_M_joined_138, s_M_joined_141, s_M_joined_142, s_M_joined_145, s_M_joined_146, s_M_joined_147, not_false_eq_true, Nat.reduceLT, Nat.reduceAdd, true_and, and_true, if_true, if_false, ite_true, ite_false, xnb_0, xnb_1, xnb_b, xk_v, xk_n]
  try
    repeat' split
    all_goals simp_all [xb, -Int32.not_lt]
theorem mj_42 (l r : Int32) : xcall E xprog (d + 1) 172 [.int 42, .int l, .int r] H Q = Q (.inl (some (.int (joC 42 l r))), H) := by
  rw [e_M_joined, s_M_joined_0, s_M_joined_1]
  change (0 ≤ (108 : Int) ∧ xr E d m_M_joined Q (108, [some (.int 42), some (.int l), some (.int r)], [], H)) = _
  rw [eq_true (show 0 ≤ (108 : Int) by decide), true_and, show joC 42 l r = (l * r) from rfl]
  simp only [s_M_joined_108, s_M_joined_109, s_M_joined_110, s_M_joined_111, s_M_joined_112, s_M_joined_113, s_M_joined_116, s_M_joined_117, s_M_joined_120, s_M_joined_121, s_M_joined_122, s_M_joined_123, s_M_joined_124, s_M_joined_125, s_M_joined_128, s_M_joined_129, not_false_eq_true, Nat.reduceLT, Nat.reduceAdd, true_and, and_true, if_true, if_false, ite_true, ite_false, xnb_0, xnb_1, xnb_b, xk_v, xk_n]
  try
    repeat' split
    all_goals simp_all [xb, -Int32.not_lt]
theorem mj_43 (l r : Int32) : xcall E xprog (d + 1) 172 [.int 43, .int l, .int r] H Q = Q (.inl (some (.int (joC 43 l r))), H) := by
  rw [e_M_joined, s_M_joined_0, s_M_joined_1]
  change (0 ≤ (100 : Int) ∧ xr E d m_M_joined Q (100, [some (.int 43), some (.int l), some (.int r)], [], H)) = _
  rw [eq_true (show 0 ≤ (100 : Int) by decide), true_and, show joC 43 l r = (l + r) from rfl]
  simp only [s_M_joined_100, s_M_joined_101, s_M_joined_102, s_M_joined_103, s_M_joined_104, s_M_joined_105, s_M_joined_106, s_M_joined_107, s_M_joined_108, s_M_joined_109, s_M_joined_110, s_M_joined_111, s_M_joined_112, s_M_joined_113, s_M_joined_116, s_M_joined_117, s_M_joined_120, s_M_joined_121, s_M_joined_122, s_M_joined_123, not_false_eq_true, Nat.reduceLT, Nat.reduceAdd, true_and, and_true, if_true, if_false, ite_true, ite_false, xnb_0, xnb_1, xnb_b, xk_v, xk_n]
  try
    repeat' split
    all_goals simp_all [xb, -Int32.not_lt]
theorem mj_45 (l r : Int32) : xcall E xprog (d + 1) 172 [.int 45, .int l, .int r] H Q = Q (.inl (some (.int (joC 45 l r))), H) := by
  rw [e_M_joined, s_M_joined_0, s_M_joined_1]
  change (0 ≤ (104 : Int) ∧ xr E d m_M_joined Q (104, [some (.int 45), some (.int l), some (.int r)], [], H)) = _
  rw [eq_true (show 0 ≤ (104 : Int) by decide), true_and, show joC 45 l r = (l - r) from rfl]
  simp only [s_M_joined_104, s_M_joined_105, s_M_joined_106, s_M_joined_107, s_M_joined_108, s_M_joined_109, s_M_joined_110, s_M_joined_111, s_M_joined_112, s_M_joined_113, s_M_joined_116, s_M_joined_117, s_M_joined_120, s_M_joined_121, s_M_joined_122, s_M_joined_123, s_M_joined_124, s_M_joined_125, not_false_eq_true, Nat.reduceLT, Nat.reduceAdd, true_and, and_true, if_true, if_false, ite_true, ite_false, xnb_0, xnb_1, xnb_b, xk_v, xk_n]
  try
    repeat' split
    all_goals simp_all [xb, -Int32.not_lt]
theorem mj_47 (l r : Int32) : xcall E xprog (d + 1) 172 [.int 47, .int l, .int r] H Q = Q (.inl (some (.int (joC 47 l r))), H) := by
  rw [e_M_joined, s_M_joined_0, s_M_joined_1]
  change (0 ≤ (112 : Int) ∧ xr E d m_M_joined Q (112, [some (.int 47), some (.int l), some (.int r)], [], H)) = _
  rw [eq_true (show 0 ≤ (112 : Int) by decide), true_and, show joC 47 l r = (if r = 0 then 0 else l / r) from rfl]
  simp only [s_M_joined_112, s_M_joined_113, s_M_joined_116, s_M_joined_117, s_M_joined_120, s_M_joined_121, s_M_joined_122, s_M_joined_123, s_M_joined_124, s_M_joined_125, s_M_joined_128, s_M_joined_129, s_M_joined_132, s_M_joined_133, s_M_joined_134, s_M_joined_135, not_false_eq_true, Nat.reduceLT, Nat.reduceAdd, true_and, and_true, if_true, if_false, ite_true, ite_false, xnb_0, xnb_1, xnb_b, xk_v, xk_n]
  try
    repeat' split
    all_goals simp_all [xb, -Int32.not_lt]
theorem mj_60 (l r : Int32) : xcall E xprog (d + 1) 172 [.int 60, .int l, .int r] H Q = Q (.inl (some (.int (joC 60 l r))), H) := by
  rw [e_M_joined, s_M_joined_0, s_M_joined_1]
  change (0 ≤ (136 : Int) ∧ xr E d m_M_joined Q (136, [some (.int 60), some (.int l), some (.int r)], [], H)) = _
  rw [eq_true (show 0 ≤ (136 : Int) by decide), true_and, show joC 60 l r = (xb (l < r)) from rfl]
  simp only [s_M_joined_136, s_M_joined_137, s_M_joined_138, s_M_joined_141, s_M_joined_142, s_M_joined_145, s_M_joined_146, s_M_joined_147, s_M_joined_148, s_M_joined_149, s_M_joined_152, s_M_joined_153, s_M_joined_156, s_M_joined_157, s_M_joined_158, s_M_joined_159, not_false_eq_true, Nat.reduceLT, Nat.reduceAdd, true_and, and_true, if_true, if_false, ite_true, ite_false, xnb_0, xnb_1, xnb_b, xk_v, xk_n]
  try
    repeat' split
    all_goals simp_all [xb, -Int32.not_lt]
theorem mj_61 (l r : Int32) : xcall E xprog (d + 1) 172 [.int 61, .int l, .int r] H Q = Q (.inl (some (.int (joC 61 l r))), H) := by
  rw [e_M_joined, s_M_joined_0, s_M_joined_1]
  change (0 ≤ (158 : Int) ∧ xr E d m_M_joined Q (158, [some (.int 61), some (.int l), some (.int r)], [], H)) = _
  rw [eq_true (show 0 ≤ (158 : Int) by decide), true_and, show joC 61 l r = (xb (l = r)) from rfl]
  simp only [s_M_joined_158, s_M_joined_159, s_M_joined_160, s_M_joined_163, s_M_joined_164, s_M_joined_167, s_M_joined_168, s_M_joined_169, s_M_joined_170, s_M_joined_173, s_M_joined_174, s_M_joined_177, s_M_joined_178, s_M_joined_181, not_false_eq_true, Nat.reduceLT, Nat.reduceAdd, true_and, and_true, if_true, if_false, ite_true, ite_false, xnb_0, xnb_1, xnb_b, xk_v, xk_n]
  try
    repeat' split
    all_goals simp_all [xb, -Int32.not_lt]
theorem mj_62 (l r : Int32) : xcall E xprog (d + 1) 172 [.int 62, .int l, .int r] H Q = Q (.inl (some (.int (joC 62 l r))), H) := by
  rw [e_M_joined, s_M_joined_0, s_M_joined_1]
  change (0 ≤ (147 : Int) ∧ xr E d m_M_joined Q (147, [some (.int 62), some (.int l), some (.int r)], [], H)) = _
  rw [eq_true (show 0 ≤ (147 : Int) by decide), true_and, show joC 62 l r = (xb (r < l)) from rfl]
  simp only [s_M_joined_147, s_M_joined_148, s_M_joined_149, s_M_joined_152, s_M_joined_153, s_M_joined_156, s_M_joined_157, s_M_joined_158, s_M_joined_159, s_M_joined_160, s_M_joined_163, s_M_joined_164, s_M_joined_167, s_M_joined_168, s_M_joined_169, s_M_joined_170, not_false_eq_true, Nat.reduceLT, Nat.reduceAdd, true_and, and_true, if_true, if_false, ite_true, ite_false, xnb_0, xnb_1, xnb_b, xk_v, xk_n]
  try
    repeat' split
    all_goals simp_all [xb, -Int32.not_lt]
theorem mj_211 (l r : Int32) : xcall E xprog (d + 1) 172 [.int 211, .int l, .int r] H Q = Q (.inl (some (.int (joC 111 l r))), H) := by
  rw [e_M_joined, s_M_joined_0, s_M_joined_1]
  change (0 ≤ (183 : Int) ∧ xr E d m_M_joined Q (183, [some (.int 211), some (.int l), some (.int r)], [], H)) = _
  rw [eq_true (show 0 ≤ (183 : Int) by decide), true_and, show joC 111 l r = (xb (¬ l = 0 ∨ ¬ r = 0)) from rfl]
  simp only [s_M_joined_183, s_M_joined_184, s_M_joined_187, s_M_joined_188, s_M_joined_191, s_M_joined_192, s_M_joined_195, s_M_joined_196, s_M_joined_197, s_M_joined_198, s_M_joined_199, s_M_joined_202, s_M_joined_203, s_M_joined_204, s_M_joined_205, not_false_eq_true, Nat.reduceLT, Nat.reduceAdd, true_and, and_true, if_true, if_false, ite_true, ite_false, xnb_0, xnb_1, xnb_b, xk_v, xk_n]
  try
    repeat' split
    all_goals simp_all [xb, -Int32.not_lt]
theorem mj_212 (l r : Int32) : xcall E xprog (d + 1) 172 [.int 212, .int l, .int r] H Q = Q (.inl (some (.int (joC 112 l r))), H) := by
  rw [e_M_joined, s_M_joined_0, s_M_joined_1]
  change (0 ≤ (169 : Int) ∧ xr E d m_M_joined Q (169, [some (.int 212), some (.int l), some (.int r)], [], H)) = _
  rw [eq_true (show 0 ≤ (169 : Int) by decide), true_and, show joC 112 l r = (xb (¬ l = 0 ∧ ¬ r = 0)) from rfl]
  simp only [s_M_joined_169, s_M_joined_170, s_M_joined_173, s_M_joined_174, s_M_joined_177, s_M_joined_178, s_M_joined_181, s_M_joined_182, s_M_joined_183, s_M_joined_184, s_M_joined_187, s_M_joined_188, s_M_joined_191, s_M_joined_192, not_false_eq_true, Nat.reduceLT, Nat.reduceAdd, true_and, and_true, if_true, if_false, ite_true, ite_false, xnb_0, xnb_1, xnb_b, xk_v, xk_n]
  try
    repeat' split
    all_goals simp_all [xb, -Int32.not_lt]
theorem mj_214 (l r : Int32) : xcall E xprog (d + 1) 172 [.int 214, .int l, .int r] H Q = Q (.inl (some (.int (joC 114 l r))), H) := by
  rw [e_M_joined, s_M_joined_0, s_M_joined_1]
  change (0 ≤ (197 : Int) ∧ xr E d m_M_joined Q (197, [some (.int 214), some (.int l), some (.int r)], [], H)) = _
  rw [eq_true (show 0 ≤ (197 : Int) by decide), true_and, show joC 114 l r = (if r < l then r else l) from rfl]
  simp only [s_M_joined_197, s_M_joined_198, s_M_joined_199, s_M_joined_202, s_M_joined_203, s_M_joined_204, s_M_joined_205, s_M_joined_208, not_false_eq_true, Nat.reduceLT, Nat.reduceAdd, true_and, and_true, if_true, if_false, ite_true, ite_false, xnb_0, xnb_1, xnb_b, xk_v, xk_n]
  try
    repeat' split
    all_goals simp_all [xb, -Int32.not_lt]
theorem mj_215 (l r : Int32) : xcall E xprog (d + 1) 172 [.int 215, .int l, .int r] H Q = Q (.inl (some (.int (joC 115 l r))), H) := by
  rw [e_M_joined, s_M_joined_0, s_M_joined_1]
  change (0 ≤ (203 : Int) ∧ xr E d m_M_joined Q (203, [some (.int 215), some (.int l), some (.int r)], [], H)) = _
  rw [eq_true (show 0 ≤ (203 : Int) by decide), true_and, show joC 115 l r = (if l < r then r else l) from rfl]
  simp only [s_M_joined_203, s_M_joined_204, s_M_joined_205, s_M_joined_208, not_false_eq_true, Nat.reduceLT, Nat.reduceAdd, true_and, and_true, if_true, if_false, ite_true, ite_false, xnb_0, xnb_1, xnb_b, xk_v, xk_n]
  try
    repeat' split
    all_goals simp_all [xb, -Int32.not_lt]
end MJOIN
