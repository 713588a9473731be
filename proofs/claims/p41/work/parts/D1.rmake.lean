/-! ===== a rule's objects, made ===== -/
section RMAKE
variable {E : xE} {d : Nat} {Q : xR → Prop} {H X : xH} {p v n m q a b lo hi k fr dp r D : Nat} {x : Int32} {jk : Option Value}
abbrev ruF (dd nn r : Nat) : xC := .inr (9, [.int (nI dd), .int (nI nn), .ref r])
/-- p is a node of a rule, with all its parts, between lo and hi -/
def ruH (E : xE) (H : xH) (lo hi : Nat) : Nat → Nat → Nat → Nat → Prop
  | 0, _, _, _ => False
  | n + 1, fr, dp, p => lo ≤ p ∧ p < hi ∧ ∃ r h, lo ≤ r ∧ r < hi ∧ H.1 p = ruF (rud E fr dp) (run E fr dp) r ∧ H.1 r = xarR (rua E fr dp) h ∧ ∀ k, k < rua E fr dp → ∃ c, h k = some c ∧ ruH E H lo hi n (fr * 2 + 3 + k) (dp + 1) c
theorem ruH_fr : ∀ {n fr dp p : Nat} {lo hi lo' hi' : Nat} {H X : xH}, ruH E H lo hi n fr dp p → (∀ a, lo ≤ a → a < hi → X.1 a = H.1 a) → lo' ≤ lo → hi ≤ hi' → ruH E X lo' hi' n fr dp p
  | 0, _, _, _, _, _, _, _, _, _, h, _, _, _ => h
  | n + 1, fr, dp, p, lo, hi, lo', hi', H, X, ⟨h1, h2, r, h, h3, h4, h5, h6, h7⟩, hx, hl, hh => by
    refine ⟨by omega, by omega, r, h, by omega, by omega, (hx p h1 h2).trans h5, (hx r h3 h4).trans h6, fun k hk => ?_⟩
    obtain ⟨c, c1, c2⟩ := h7 k hk
    exact ⟨c, c1, ruH_fr c2 hx hl hh⟩
theorem xf_ss {Z : xH} {ci : Nat} {fs : List Value} : xfls (xset Z p (.inr (ci, fs))) p ci = fs := xf_of (xset_s p rfl)
theorem nI_q {x y : Nat} (hx : x < 2147483648) (hy : y < 2147483648) : (nI x = nI y) = (x = y) := propext ⟨nI_inj hx hy, fun h => by rw [h]⟩
theorem ri_A (hE : E.1 ≤ 260) (hp : H.1 p = ruF 0 0 0 ∨ H.1 p = .inr (9, [.int 0, .int 0, .null])) (hlp : p < H.2.1) (hf : fr ≤ 1000) (hd : dp ≤ 4) : xr E (d + 1) m_R_init Q (0, [some (.ref p), some (.retAddr 0), some (.int (nI fr)), some (.int (nI dp)), none, none], [], H) = xr E (d + 1) m_R_init Q (58, [some (.ref p), some (.retAddr 0), some (.int (nI fr)), some (.int (nI dp)), some (.int (rux E fr dp)), none], [], xset (xnew H (xarR 0 (fun _ => none)) 0) p (.inr (9, [.int (nI (if 2 < dp then bel (rux E fr dp) 2 else bel (rux E fr dp) 19)), .int 0, .ref H.2.1]))) := by
  have hp2 : ∃ w, (xnew H (xarR 0 (fun _ => none)) 0).1 p = .inr (9, [.int 0, .int 0, w]) := by
    rcases hp with h | h
    · exact ⟨_, by rw [xnew_g, if_neg (by omega)]; exact h⟩
    · exact ⟨_, by rw [xnew_g, if_neg (by omega)]; exact h⟩
  obtain ⟨w, hp2⟩ := hp2
  have hce : ∀ (Z : xH) (Q : xR → Prop), xcall E xprog (d + 1) 168 [.retAddr 0, .int (nI (fr % 16))] Z Q = Q (.inl (some (.int (cel E (fr % 16)))), Z) := fun Z Q => f_L_cell hE (by omega)
  have hb2 : ∀ (Z : xH) (Q : xR → Prop) (v : Int32), xcall E xprog (d + 1) 167 [.int v, .int 2] Z Q = Q (.inl (some (.int (nI (bel v 2)))), Z) := fun Z Q v => f_L_below v (n := 2) (by omega) (by omega)
  have hb3 : ∀ (Z : xH) (Q : xR → Prop) (v : Int32), xcall E xprog (d + 1) 167 [.int v, .int 19] Z Q = Q (.inl (some (.int (nI (bel v 19)))), Z) := fun Z Q v => f_L_below v (n := 19) (by omega) (by omega)
  by_cases h : 2 < dp
  · simp only [s_R_init_0, s_R_init_1, s_R_init_4, s_R_init_5, s_R_init_6, s_R_init_9, s_R_init_12, s_R_init_13, s_R_init_14, s_R_init_16, s_R_init_17, s_R_init_20, s_R_init_23, s_R_init_24, s_R_init_25, s_R_init_26, s_R_init_28, s_R_init_29, s_R_init_30, s_R_init_31, s_R_init_33, s_R_init_34, s_R_init_35, s_R_init_36, s_R_init_39, s_R_init_41, s_R_init_42, s_R_init_45, s_R_init_48, s_R_init_50, s_R_init_52, s_R_init_55, not_false_eq_true, Nat.reduceLT, Nat.reduceAdd, true_and, and_true, if_true, if_false, ite_true, ite_false, xnb_0, xnb_1, xnb_b, xk_v, xk_n, show ((0 : Int32) < 0) = False from eq_false (by decide), show ((0 : Int32).toNatClampNeg * 4 ≤ 536870912) = True from eq_true (by decide), show (0 : Int32).toNatClampNeg = 0 from rfl, show (0 * 4 ≤ 536870912) = True from eq_true (by decide), xf_of hp2, xll_9, xlg_9_0, xlg_9_1, xlg_9_2, xls_9_0, xls_9_1, xls_9_2, show nI fr - nI fr / 16 * 16 = nI (fr % 16) from nI_md (y := 16) (by omega) (by omega) (by omega), show ((16 : Int32) = 0) = False from eq_false (by decide), hce, show cel E (fr % 16) + 601 * nI fr + 7 * nI dp = rux E fr dp from rfl, show ((2 : Int32) < nI dp) = True from nlt (i := 2) h (by omega), hb2, xf_ss, xst_2, eq_true h]
  · simp only [s_R_init_0, s_R_init_1, s_R_init_4, s_R_init_5, s_R_init_6, s_R_init_9, s_R_init_12, s_R_init_13, s_R_init_14, s_R_init_16, s_R_init_17, s_R_init_20, s_R_init_23, s_R_init_24, s_R_init_25, s_R_init_26, s_R_init_28, s_R_init_29, s_R_init_30, s_R_init_31, s_R_init_33, s_R_init_34, s_R_init_35, s_R_init_36, s_R_init_39, s_R_init_41, s_R_init_42, s_R_init_45, s_R_init_48, s_R_init_50, s_R_init_52, s_R_init_55, not_false_eq_true, Nat.reduceLT, Nat.reduceAdd, true_and, and_true, if_true, if_false, ite_true, ite_false, xnb_0, xnb_1, xnb_b, xk_v, xk_n, show ((0 : Int32) < 0) = False from eq_false (by decide), show ((0 : Int32).toNatClampNeg * 4 ≤ 536870912) = True from eq_true (by decide), show (0 : Int32).toNatClampNeg = 0 from rfl, show (0 * 4 ≤ 536870912) = True from eq_true (by decide), xf_of hp2, xll_9, xlg_9_0, xlg_9_1, xlg_9_2, xls_9_0, xls_9_1, xls_9_2, show nI fr - nI fr / 16 * 16 = nI (fr % 16) from nI_md (y := 16) (by omega) (by omega) (by omega), show ((16 : Int32) = 0) = False from eq_false (by decide), hce, show cel E (fr % 16) + 601 * nI fr + 7 * nI dp = rux E fr dp from rfl, show ((2 : Int32) < nI dp) = False from nge (i := 2) (n := dp) (by omega) (by omega), hb3, xf_ss, xst_2, eq_false h]
theorem ri_B (hp : H.1 p = .inr (9, [.int (nI D), .int 0, .ref r])) (hD : D ≤ 18) : xr E (d + 1) m_R_init Q (58, [some (.ref p), some (.retAddr 0), some (.int (nI fr)), some (.int (nI dp)), some (.int x), none], [], H) = xr E (d + 1) m_R_init Q (72, [some (.ref p), some (.retAddr 0), some (.int (nI fr)), some (.int (nI dp)), some (.int x), none], [], xset H p (.inr (9, [.int (nI (if 16 < D then 1 else D)), .int 0, .ref r]))) := by
  by_cases h : 16 < D
  · simp only [s_R_init_58, s_R_init_59, s_R_init_62, s_R_init_64, s_R_init_67, s_R_init_68, s_R_init_69, not_false_eq_true, Nat.reduceLT, Nat.reduceAdd, true_and, and_true, if_true, if_false, ite_true, ite_false, xnb_0, xnb_1, xnb_b, xk_v, xk_n, xf_of hp, xll_9, xlg_9_0, xlg_9_1, xlg_9_2, xls_9_0, xls_9_1, xls_9_2, show ((16 : Int32) < nI D) = True from nlt (i := 16) h (by omega), eq_true h]
    rfl
  · have : xset H p (.inr (9, [.int (nI D), .int 0, .ref r])) = H := by
      refine Prod.ext (funext fun a => ?_) rfl
      show (if a = p then _ else H.1 a) = H.1 a
      split
      · next e => rw [e, hp]
      · rfl
    simp only [s_R_init_58, s_R_init_59, s_R_init_62, s_R_init_64, s_R_init_67, s_R_init_68, s_R_init_69, not_false_eq_true, Nat.reduceLT, Nat.reduceAdd, true_and, and_true, if_true, if_false, ite_true, ite_false, xnb_0, xnb_1, xnb_b, xk_v, xk_n, xf_of hp, xll_9, xlg_9_0, xlg_9_1, xlg_9_2, xls_9_0, xls_9_1, xls_9_2, show ((16 : Int32) < nI D) = False from nge (i := 16) (n := D) (by omega) (by omega), eq_false h, this]
theorem ri_C (hp : H.1 p = .inr (9, [.int (nI (rud E fr dp)), .int 0, .ref r])) (hr : H.1 r = xarR 0 (fun _ => none)) (hlp : p < H.2.1) (hlr : r < H.2.1) (hpr : ¬ r = p) : ∃ X r', (∀ Q, xr E (d + 1) m_R_init Q (72, [some (.ref p), some (.retAddr 0), some (.int (nI fr)), some (.int (nI dp)), some (.int (rux E fr dp)), none], [], H) = xr E (d + 1) m_R_init Q (172, [some (.ref p), some (.retAddr 0), some (.int (nI fr)), some (.int (nI dp)), some (.int (rux E fr dp)), some (.int 0)], [], X)) ∧ X.1 p = ruF (rud E fr dp) (run E fr dp) r' ∧ X.1 r' = xarR (rua E fr dp) (fun _ => none) ∧ (r' = r ∨ r' = H.2.1) ∧ r' < X.2.1 ∧ (∀ a, a < H.2.1 → ¬ a = p → X.1 a = H.1 a) ∧ H.2.1 ≤ X.2.1 ∧ X.2.1 ≤ H.2.1 + 1 ∧ X.2.2 ≤ H.2.2 + 3 := by
  have hD := rud_le (E := E) fr dp
  have hbl : ∀ (Z : xH) (Q : xR → Prop) (v : Int32) (n : Nat), 0 < n → n < 2147483648 → xcall E xprog (d + 1) 167 [.int v, .int (nI n)] Z Q = Q (.inl (some (.int (nI (bel v n)))), Z) := fun Z Q v n h0 h1 => f_L_below v h0 h1
  have h12 : ∀ (Z : xH) (Q : xR → Prop) (v : Int32), xcall E xprog (d + 1) 167 [.int v, .int 12] Z Q = Q (.inl (some (.int (nI (bel v 12)))), Z) := fun Z Q v => hbl Z Q v 12 (by omega) (by omega)
  have h10 : ∀ (Z : xH) (Q : xR → Prop) (v : Int32), xcall E xprog (d + 1) 167 [.int v, .int 10] Z Q = Q (.inl (some (.int (nI (bel v 10)))), Z) := fun Z Q v => hbl Z Q v 10 (by omega) (by omega)
  have h10k : ∀ (Z : xH) (Q : xR → Prop) (v : Int32), xcall E xprog (d + 1) 167 [.int v, .int 10000] Z Q = Q (.inl (some (.int (nI (bel v 10000)))), Z) := fun Z Q v => hbl Z Q v 10000 (by omega) (by omega)
  have h5 : ∀ (Z : xH) (Q : xR → Prop) (v : Int32), xcall E xprog (d + 1) 167 [.int v, .int 5] Z Q = Q (.inl (some (.int (nI (bel v 5)))), Z) := fun Z Q v => hbl Z Q v 5 (by omega) (by omega)
  have z0 : (nI (rud E fr dp) = 0) = (rud E fr dp = 0) := by
    exact nI_q (y := 0) (by omega) (by omega)
  have z1 : (nI (rud E fr dp) = 1) = (rud E fr dp = 1) := by
    exact nI_q (y := 1) (by omega) (by omega)
  by_cases c0 : rud E fr dp = 0
  · have hn : run E fr dp = bel (rux E fr dp >>> (5 &&& 31)) (if bel (rux E fr dp >>> (4 &&& 31)) 5 = 0 then 10000 else 12) := by unfold run; rw [if_pos c0]
    have ha : rua E fr dp = 0 := by unfold rua; rw [if_pos (by omega)]
    refine ⟨xset H p (ruF (rud E fr dp) (run E fr dp) r), r, fun Q => ?_, xset_s p rfl, ?_, Or.inl rfl, hlr, fun a _ hap => xset_o a hap, Nat.le_refl _, Nat.le_succ _, Nat.le_add_right _ _⟩
    · have zz : (nI (bel (rux E fr dp >>> (4 &&& 31)) 5) = 0) = (bel (rux E fr dp >>> (4 &&& 31)) 5 = 0) := by
        have := bel_lt (v := rux E fr dp >>> (4 &&& 31)) (n := 5) (by omega)
        exact nI_q (y := 0) (by omega) (by omega)
      by_cases e : bel (rux E fr dp >>> (4 &&& 31)) 5 = 0
      · rw [if_pos e] at hn
        simp only [↓reduceIte, s_R_init_72, s_R_init_73, s_R_init_76, s_R_init_79, s_R_init_80, s_R_init_82, s_R_init_83, s_R_init_84, s_R_init_86, s_R_init_87, s_R_init_88, s_R_init_89, s_R_init_92, s_R_init_95, s_R_init_98, s_R_init_101, s_R_init_103, s_R_init_106, s_R_init_109, s_R_init_112, s_R_init_113, s_R_init_116, s_R_init_117, s_R_init_120, s_R_init_121, s_R_init_123, s_R_init_124, s_R_init_125, s_R_init_127, s_R_init_130, s_R_init_133, s_R_init_136, s_R_init_137, s_R_init_138, s_R_init_141, s_R_init_142, s_R_init_145, s_R_init_146, s_R_init_149, s_R_init_150, s_R_init_153, s_R_init_155, s_R_init_158, s_R_init_159, s_R_init_162, s_R_init_163, s_R_init_166, s_R_init_169, s_R_init_170, not_false_eq_true, Nat.reduceLT, Nat.reduceAdd, true_and, and_true, if_true, if_false, ite_true, ite_false, xnb_0, xnb_1, xnb_b, xk_v, xk_n, xf_of hp, xll_9, xlg_9_0, xlg_9_1, xlg_9_2, xls_9_0, xls_9_1, xls_9_2, z0, eq_true c0, h5, zz, eq_true e, h10k, ← hn]
      · rw [if_neg e] at hn
        simp only [↓reduceIte, s_R_init_72, s_R_init_73, s_R_init_76, s_R_init_79, s_R_init_80, s_R_init_82, s_R_init_83, s_R_init_84, s_R_init_86, s_R_init_87, s_R_init_88, s_R_init_89, s_R_init_92, s_R_init_95, s_R_init_98, s_R_init_101, s_R_init_103, s_R_init_106, s_R_init_109, s_R_init_112, s_R_init_113, s_R_init_116, s_R_init_117, s_R_init_120, s_R_init_121, s_R_init_123, s_R_init_124, s_R_init_125, s_R_init_127, s_R_init_130, s_R_init_133, s_R_init_136, s_R_init_137, s_R_init_138, s_R_init_141, s_R_init_142, s_R_init_145, s_R_init_146, s_R_init_149, s_R_init_150, s_R_init_153, s_R_init_155, s_R_init_158, s_R_init_159, s_R_init_162, s_R_init_163, s_R_init_166, s_R_init_169, s_R_init_170, not_false_eq_true, Nat.reduceLT, Nat.reduceAdd, true_and, and_true, if_true, if_false, ite_true, ite_false, xnb_0, xnb_1, xnb_b, xk_v, xk_n, xf_of hp, xll_9, xlg_9_0, xlg_9_1, xlg_9_2, xls_9_0, xls_9_1, xls_9_2, z0, eq_true c0, h5, zz, eq_false e, h12, ← hn]
    · rw [xset_o _ hpr, hr, ha]
  by_cases c1 : rud E fr dp = 1
  · have hn : run E fr dp = bel (rux E fr dp >>> (5 &&& 31)) 10 := by unfold run; rw [if_neg c0, if_pos c1]
    have ha : rua E fr dp = 0 := by unfold rua; rw [if_pos (by omega)]
    refine ⟨xset H p (ruF (rud E fr dp) (run E fr dp) r), r, fun Q => ?_, xset_s p rfl, ?_, Or.inl rfl, hlr, fun a _ hap => xset_o a hap, Nat.le_refl _, Nat.le_succ _, Nat.le_add_right _ _⟩
    · simp only [↓reduceIte, s_R_init_72, s_R_init_73, s_R_init_76, s_R_init_79, s_R_init_80, s_R_init_82, s_R_init_83, s_R_init_84, s_R_init_86, s_R_init_87, s_R_init_88, s_R_init_89, s_R_init_92, s_R_init_95, s_R_init_98, s_R_init_101, s_R_init_103, s_R_init_106, s_R_init_109, s_R_init_112, s_R_init_113, s_R_init_116, s_R_init_117, s_R_init_120, s_R_init_121, s_R_init_123, s_R_init_124, s_R_init_125, s_R_init_127, s_R_init_130, s_R_init_133, s_R_init_136, s_R_init_137, s_R_init_138, s_R_init_141, s_R_init_142, s_R_init_145, s_R_init_146, s_R_init_149, s_R_init_150, s_R_init_153, s_R_init_155, s_R_init_158, s_R_init_159, s_R_init_162, s_R_init_163, s_R_init_166, s_R_init_169, s_R_init_170, not_false_eq_true, Nat.reduceLT, Nat.reduceAdd, true_and, and_true, if_true, if_false, ite_true, ite_false, xnb_0, xnb_1, xnb_b, xk_v, xk_n, xf_of hp, xll_9, xlg_9_0, xlg_9_1, xlg_9_2, xls_9_0, xls_9_1, xls_9_2, z0, z1, eq_false c0, eq_true c1, h10, ← hn]
    · rw [xset_o _ hpr, hr, ha]
  · have hn : run E fr dp = 0 := run_o (by omega)
    have ha : rua E fr dp = if rud E fr dp < 4 then 1 else if rud E fr dp < 16 then 2 else 3 := by unfold rua; rw [if_neg (by omega)]
    have ha2 : rua E fr dp ≤ 3 := by rw [ha]; by_cases u : rud E fr dp < 4 <;> by_cases w : rud E fr dp < 16 <;> simp [u, w]
    have hp2 : (xnew H (xarR (rua E fr dp) (fun _ => none)) (rua E fr dp)).1 p = .inr (9, [.int (nI (rud E fr dp)), .int 0, .ref r]) := by rw [xnew_g, if_neg (by omega)]; exact hp
    have k1 : (1 : Int32) = nI 1 := rfl
    refine ⟨xset (xnew H (xarR (rua E fr dp) (fun _ => none)) (rua E fr dp)) p (ruF (rud E fr dp) 0 H.2.1), H.2.1, fun Q => ?_, ?_, ?_, Or.inr rfl, Nat.lt_succ_self _, fun a ha hap => ?_, Nat.le_succ _, Nat.le_refl _, ?_⟩
    · by_cases c4 : rud E fr dp < 4
      · rw [if_pos c4] at ha
        rw [ha] at hp2 ⊢
        simp only [↓reduceIte, s_R_init_72, s_R_init_73, s_R_init_76, s_R_init_79, s_R_init_80, s_R_init_82, s_R_init_83, s_R_init_84, s_R_init_86, s_R_init_87, s_R_init_88, s_R_init_89, s_R_init_92, s_R_init_95, s_R_init_98, s_R_init_101, s_R_init_103, s_R_init_106, s_R_init_109, s_R_init_112, s_R_init_113, s_R_init_116, s_R_init_117, s_R_init_120, s_R_init_121, s_R_init_123, s_R_init_124, s_R_init_125, s_R_init_127, s_R_init_130, s_R_init_133, s_R_init_136, s_R_init_137, s_R_init_138, s_R_init_141, s_R_init_142, s_R_init_145, s_R_init_146, s_R_init_149, s_R_init_150, s_R_init_153, s_R_init_155, s_R_init_158, s_R_init_159, s_R_init_162, s_R_init_163, s_R_init_166, s_R_init_169, s_R_init_170, not_false_eq_true, Nat.reduceLT, Nat.reduceAdd, true_and, and_true, if_true, if_false, ite_true, ite_false, xnb_0, xnb_1, xnb_b, xk_v, xk_n, xf_of hp, xf_of hp2, xll_9, xlg_9_0, xlg_9_1, xlg_9_2, xls_9_0, xls_9_1, xls_9_2, z0, z1, eq_false c0, eq_false c1, show (nI (rud E fr dp) < 4) = True from nlt (n := 4) c4 (by omega), show ((1 : Int32) < 0) = False from eq_false (by decide), show ((1 : Int32).toNatClampNeg * 4 ≤ 536870912) = True from eq_true (by decide), show (1 : Int32).toNatClampNeg = 1 from rfl, show (1 * 4 ≤ 536870912) = True from eq_true (by decide)]
        rfl
      · rw [if_neg c4] at ha
        by_cases c16 : rud E fr dp < 16
        · rw [if_pos c16] at ha
          rw [ha] at hp2 ⊢
          simp only [↓reduceIte, s_R_init_72, s_R_init_73, s_R_init_76, s_R_init_79, s_R_init_80, s_R_init_82, s_R_init_83, s_R_init_84, s_R_init_86, s_R_init_87, s_R_init_88, s_R_init_89, s_R_init_92, s_R_init_95, s_R_init_98, s_R_init_101, s_R_init_103, s_R_init_106, s_R_init_109, s_R_init_112, s_R_init_113, s_R_init_116, s_R_init_117, s_R_init_120, s_R_init_121, s_R_init_123, s_R_init_124, s_R_init_125, s_R_init_127, s_R_init_130, s_R_init_133, s_R_init_136, s_R_init_137, s_R_init_138, s_R_init_141, s_R_init_142, s_R_init_145, s_R_init_146, s_R_init_149, s_R_init_150, s_R_init_153, s_R_init_155, s_R_init_158, s_R_init_159, s_R_init_162, s_R_init_163, s_R_init_166, s_R_init_169, s_R_init_170, not_false_eq_true, Nat.reduceLT, Nat.reduceAdd, true_and, and_true, if_true, if_false, ite_true, ite_false, xnb_0, xnb_1, xnb_b, xk_v, xk_n, xf_of hp, xf_of hp2, xll_9, xlg_9_0, xlg_9_1, xlg_9_2, xls_9_0, xls_9_1, xls_9_2, z0, z1, eq_false c0, eq_false c1, show (nI (rud E fr dp) < 4) = False from nge (i := rud E fr dp) (n := 4) (by omega) (by omega), show (nI (rud E fr dp) < 16) = True from nlt (n := 16) c16 (by omega), show ((2 : Int32) < 0) = False from eq_false (by decide), show ((2 : Int32).toNatClampNeg * 4 ≤ 536870912) = True from eq_true (by decide), show (2 : Int32).toNatClampNeg = 2 from rfl, show (2 * 4 ≤ 536870912) = True from eq_true (by decide)]
          rfl
        · rw [if_neg c16] at ha
          rw [ha] at hp2 ⊢
          simp only [↓reduceIte, s_R_init_72, s_R_init_73, s_R_init_76, s_R_init_79, s_R_init_80, s_R_init_82, s_R_init_83, s_R_init_84, s_R_init_86, s_R_init_87, s_R_init_88, s_R_init_89, s_R_init_92, s_R_init_95, s_R_init_98, s_R_init_101, s_R_init_103, s_R_init_106, s_R_init_109, s_R_init_112, s_R_init_113, s_R_init_116, s_R_init_117, s_R_init_120, s_R_init_121, s_R_init_123, s_R_init_124, s_R_init_125, s_R_init_127, s_R_init_130, s_R_init_133, s_R_init_136, s_R_init_137, s_R_init_138, s_R_init_141, s_R_init_142, s_R_init_145, s_R_init_146, s_R_init_149, s_R_init_150, s_R_init_153, s_R_init_155, s_R_init_158, s_R_init_159, s_R_init_162, s_R_init_163, s_R_init_166, s_R_init_169, s_R_init_170, not_false_eq_true, Nat.reduceLT, Nat.reduceAdd, true_and, and_true, if_true, if_false, ite_true, ite_false, xnb_0, xnb_1, xnb_b, xk_v, xk_n, xf_of hp, xf_of hp2, xll_9, xlg_9_0, xlg_9_1, xlg_9_2, xls_9_0, xls_9_1, xls_9_2, z0, z1, eq_false c0, eq_false c1, show (nI (rud E fr dp) < 4) = False from nge (i := rud E fr dp) (n := 4) (by omega) (by omega), show (nI (rud E fr dp) < 16) = False from nge (i := rud E fr dp) (n := 16) (by omega) (by omega), show ((3 : Int32) < 0) = False from eq_false (by decide), show ((3 : Int32).toNatClampNeg * 4 ≤ 536870912) = True from eq_true (by decide), show (3 : Int32).toNatClampNeg = 3 from rfl, show (3 * 4 ≤ 536870912) = True from eq_true (by decide)]
          rfl
    · rw [hn]; exact xset_s p rfl
    · rw [xset_o _ (by omega)]; exact if_pos rfl
    · rw [xset_o _ hap, xnew_g, if_neg (by omega)]
    · show H.2.2 + rua E fr dp ≤ _; omega
/-- cells of a node's parts, at the most -/
def cN : Nat → Nat | 0 => 0 | n + 1 => 2 + 3 * (1 + cN n)
abbrev ru0 : xC := .inr (9, [.int 0, .int 0, .null])
theorem l_ri {D n fr dp p r : Nat} (hf : fr ≤ 1000) (hd : dp ≤ 4) (hu : rua E fr dp ≤ 3) (step : ∀ k c (H : xH), k < rua E fr dp → H.1 c = ru0 → c < H.2.1 → ∃ X, (∀ Q, xcall E xprog D 106 [.ref c, .retAddr 0, .int (nI (fr * 2 + 3 + k)), .int (nI (dp + 1))] H Q = Q (.inl none, X)) ∧ ruH E X c X.2.1 n (fr * 2 + 3 + k) (dp + 1) c ∧ (∀ a, a < H.2.1 → ¬ a = c → X.1 a = H.1 a) ∧ H.2.1 ≤ X.2.1 ∧ X.2.1 ≤ H.2.1 + cN n ∧ X.2.2 ≤ H.2.2 + 3 * cN n) : ∀ (m k : Nat) (H : xH) (h : Nat → Option Nat), k + m = rua E fr dp → H.1 p = ruF (rud E fr dp) (run E fr dp) r → H.1 r = xarR (rua E fr dp) h → p < r → r < H.2.1 → (∀ j, j < k → ∃ c, h j = some c ∧ ruH E H (r + 1) H.2.1 n (fr * 2 + 3 + j) (dp + 1) c) →
    ∃ X, (∀ Q, xr E D m_R_init Q (172, [some (.ref p), some (.retAddr 0), some (.int (nI fr)), some (.int (nI dp)), some (.int (rux E fr dp)), some (.int (nI k))], [], H) = Q (.inl none, X)) ∧ ruH E X p X.2.1 (n + 1) fr dp p ∧ (∀ a, a < H.2.1 → ¬ a = p → ¬ a = r → X.1 a = H.1 a) ∧ H.2.1 ≤ X.2.1 ∧ X.2.1 ≤ H.2.1 + m * (1 + cN n) ∧ X.2.2 ≤ H.2.2 + 3 * (m * (1 + cN n))
  | 0, k, H, h, hk, hp, hr, hpr, hlr, hc => by
    refine ⟨H, fun Q => ?_, ⟨Nat.le_refl _, by omega, r, h, by omega, hlr, hp, hr, fun j hj => ?_⟩, fun _ _ _ _ => rfl, Nat.le_refl _, by omega, by omega⟩
    · rw [s_R_init_172]
      simp only [s_R_init_174, s_R_init_175, s_R_init_178, s_R_init_179, s_R_init_214, not_false_eq_true, Nat.reduceLT, Nat.reduceAdd, true_and, and_true, if_true, if_false, ite_true, ite_false, xnb_0, xnb_1, xnb_b, xk_v, xk_n, xf_of hp, xll_9, xlg_9_0, xlg_9_1, xlg_9_2, xln_R hr, Option.isSome_some, Option.getD_some, nge (show rua E fr dp ≤ k by omega) (by omega)]
    · obtain ⟨c, c1, c2⟩ := hc j (by omega)
      exact ⟨c, c1, ruH_fr c2 (fun _ _ _ => rfl) (by omega) (Nat.le_refl _)⟩
  | m + 1, k, H, h, hk, hp, hr, hpr, hlr, hc => by
    have hn0 : (xnew H (.inr (9, xdef 9)) 3).1 H.2.1 = ru0 := if_pos rfl
    obtain ⟨X, e1, e2, e3, e4, e5, e6⟩ := step k H.2.1 (xnew H (.inr (9, xdef 9)) 3) (by omega) hn0 (Nat.lt_succ_self _)
    have ho : ∀ a, a < H.2.1 → X.1 a = H.1 a := fun a ha => (e3 a (Nat.lt_succ_of_lt ha) (by omega)).trans (by rw [xnew_g, if_neg (by omega)])
    have hr1 : X.1 r = xarR (rua E fr dp) h := (ho r hlr).trans hr
    have hlX : H.2.1 < X.2.1 := e4
    have hcl : xcl X H.2.1 = 9 := by
      cases n with
      | zero => exact e2.elim
      | succ n =>
        obtain ⟨-, -, r2, h2, -, -, u1, -⟩ := e2
        exact xc_of u1
    have hset : ∀ {a C}, ¬ a = r → (xset X r C).1 a = X.1 a := fun ha => xset_o _ ha
    obtain ⟨Y, f1, f2, f3, f4, f5, f6⟩ := l_ri hf hd hu step m (k + 1) (xset X r (xarR (rua E fr dp) (va_up h k (some H.2.1)))) (va_up h k (some H.2.1)) (by omega) ((hset (by omega)).trans ((ho p (by omega)).trans hp)) (xset_s r rfl) hpr (by show r < X.2.1; omega) (fun j hj => by
      by_cases q : j = k
      · subst q
        refine ⟨H.2.1, by unfold va_up; rw [if_pos rfl], ruH_fr e2 (fun a ha _ => hset (by omega)) (by omega) (Nat.le_refl _)⟩
      · obtain ⟨c, c1, c2⟩ := hc j (by omega)
        refine ⟨c, by unfold va_up; rw [if_neg q]; exact c1, ruH_fr c2 (fun a h1 h2 => (hset (by omega)).trans (ho a h2)) (Nat.le_refl _) (Nat.le_of_lt hlX)⟩)
    refine ⟨Y, fun Q => ?_, f2, fun a ha hap har => (f3 a (by show a < X.2.1; omega) hap har).trans ((hset har).trans (ho a ha)), Nat.le_trans (Nat.le_of_lt hlX) f4, ?_, ?_⟩
    · rw [s_R_init_172]
      simp only [s_R_init_174, s_R_init_175, s_R_init_178, s_R_init_179, s_R_init_182, s_R_init_183, s_R_init_186, s_R_init_188, s_R_init_191, s_R_init_192, s_R_init_193, s_R_init_194, s_R_init_195, s_R_init_196, s_R_init_197, s_R_init_198, s_R_init_200, s_R_init_201, s_R_init_202, s_R_init_203, s_R_init_204, s_R_init_207, s_R_init_208, s_R_init_211, not_false_eq_true, Nat.reduceLT, Nat.reduceAdd, true_and, and_true, if_true, if_false, ite_true, ite_false, xnb_0, xnb_1, xnb_b, xk_v, xk_n, xf_of hp, xll_9, xlg_9_0, xlg_9_1, xlg_9_2, xln_R hr, Option.isSome_some, Option.getD_some, nlt (show k < rua E fr dp by omega) (by omega), show nI fr * 2 + 3 + nI k = nI (fr * 2 + 3 + k) by rw [show (2 : Int32) = nI 2 from rfl, show (3 : Int32) = nI 3 from rfl, nI_mu, nI_ad, nI_ad], show nI dp + 1 = nI (dp + 1) from nI_ad dp 1, e1, (xR_of hr1).1, (xR_of hr1).2.1, (xR_of hr1).2.2, nvp (show k < rua E fr dp by omega) (by omega), ncl (show k < 2147483648 by omega), hcl, show nI k + 1 = nI (k + 1) from nI_ad k 1, f1]
    · have h5 : Y.2.1 ≤ X.2.1 + m * (1 + cN n) := f5
      have h6 : X.2.1 ≤ H.2.1 + 1 + cN n := e5
      rw [Nat.succ_mul]; omega
    · have h5 : Y.2.2 ≤ X.2.2 + 3 * (m * (1 + cN n)) := f6
      have h6 : X.2.2 ≤ H.2.2 + 3 + 3 * cN n := e6
      have h7 : (m + 1) * (1 + cN n) = m * (1 + cN n) + (1 + cN n) := Nat.succ_mul _ _
      rw [h7]; omega
theorem rua_0 {fr dp : Nat} (h : 2 < dp) : rua E fr dp = 0 := by unfold rua; rw [if_pos (rud_leaf h)]
theorem rua_le (fr dp : Nat) : rua E fr dp ≤ 3 := by
  unfold rua
  repeat' split
  all_goals omega
theorem ri_top (hE : E.1 ≤ 260) (hp : H.1 p = ru0) (hlp : p < H.2.1) (hf : fr ≤ 1000) (hd : dp ≤ 4) : ∃ X r, (∀ Q, xcall E xprog (d + 2) 106 [.ref p, .retAddr 0, .int (nI fr), .int (nI dp)] H Q = xr E (d + 1) m_R_init Q (172, [some (.ref p), some (.retAddr 0), some (.int (nI fr)), some (.int (nI dp)), some (.int (rux E fr dp)), some (.int 0)], [], X)) ∧ X.1 p = ruF (rud E fr dp) (run E fr dp) r ∧ X.1 r = xarR (rua E fr dp) (fun _ => none) ∧ H.2.1 ≤ r ∧ r < X.2.1 ∧ (∀ a, a < H.2.1 → ¬ a = p → X.1 a = H.1 a) ∧ H.2.1 ≤ X.2.1 ∧ X.2.1 ≤ H.2.1 + 2 ∧ X.2.2 ≤ H.2.2 + 3 := by
  have hb : (if 2 < dp then bel (rux E fr dp) 2 else bel (rux E fr dp) 19) ≤ 18 := by
    have h1 := bel_lt (v := rux E fr dp) (n := 2) (by omega)
    have h2 := bel_lt (v := rux E fr dp) (n := 19) (by omega)
    split <;> omega
  have hb2 : (if 16 < (if 2 < dp then bel (rux E fr dp) 2 else bel (rux E fr dp) 19) then 1 else (if 2 < dp then bel (rux E fr dp) 2 else bel (rux E fr dp) 19)) = rud E fr dp := by
    unfold rud
    by_cases h : 2 < dp
    · have h1 := bel_lt (v := rux E fr dp) (n := 2) (by omega)
      simp only [if_pos h]; rw [if_neg (by omega)]
    · simp only [if_neg h]
  have a1 := fun Q => ri_A (E := E) (d := d) (Q := Q) hE (Or.inr hp) hlp hf hd
  generalize hD : (if 2 < dp then bel (rux E fr dp) 2 else bel (rux E fr dp) 19) = D at a1 hb hb2
  have a2 := fun Q => ri_B (E := E) (d := d) (Q := Q) (p := p) (fr := fr) (dp := dp) (x := rux E fr dp) (H := xset (xnew H (xarR 0 (fun _ => none)) 0) p (.inr (9, [.int (nI D), .int 0, .ref H.2.1]))) (r := H.2.1) (xset_s p rfl) hb
  rw [hb2, xst_2] at a2
  obtain ⟨X, r, c1, c2, c3, c4, c5, c6, c7, c8, c9⟩ := ri_C (E := E) (d := d) (p := p) (fr := fr) (dp := dp) (r := H.2.1) (H := xset (xnew H (xarR 0 (fun _ => none)) 0) p (.inr (9, [.int (nI (rud E fr dp)), .int 0, .ref H.2.1]))) (xset_s p rfl) (by rw [xset_o _ (by omega)]; exact if_pos rfl) (Nat.lt_succ_of_lt hlp) (Nat.lt_succ_self _) (by omega)
  have c7' : H.2.1 + 1 ≤ X.2.1 := c7
  have c8' : X.2.1 ≤ H.2.1 + 1 + 1 := c8
  have c9' : X.2.2 ≤ H.2.2 + 0 + 3 := c9
  refine ⟨X, r, fun Q => ?_, c2, c3, ?_, c5, fun a ha hap => (c6 a (Nat.lt_succ_of_lt ha) hap).trans ?_, by omega, by omega, by omega⟩
  · rw [e_R_init, a1, a2, c1]
  · rcases c4 with e | e
    · omega
    · rw [e]; exact Nat.le_succ _
  · rw [xset_o _ hap, xnew_g, if_neg (by omega)]
theorem fr_le {fr dp : Nat} (hd : dp ≤ 3) (hf : fr + 5 ≤ 65 * 2 ^ dp) : fr ≤ 1000 := by
  rcases (show dp = 0 ∨ dp = 1 ∨ dp = 2 ∨ dp = 3 by omega) with e | e | e | e <;> subst e <;> simp at hf <;> omega
theorem r_init (hE : E.1 ≤ 260) : ∀ (n fr dp p : Nat) (H : xH), dp + n = 3 → fr + 5 ≤ 65 * 2 ^ dp → H.1 p = ru0 → p < H.2.1 → ∃ X, (∀ Q, xcall E xprog (d + 2 + n) 106 [.ref p, .retAddr 0, .int (nI fr), .int (nI dp)] H Q = Q (.inl none, X)) ∧ ruH E X p X.2.1 (n + 1) fr dp p ∧ (∀ a, a < H.2.1 → ¬ a = p → X.1 a = H.1 a) ∧ H.2.1 ≤ X.2.1 ∧ X.2.1 ≤ H.2.1 + cN (n + 1) ∧ X.2.2 ≤ H.2.2 + 3 * cN (n + 1) := by
  intro n
  induction n with
  | zero =>
    intro fr dp p H hd hf hp hlp
    obtain ⟨X, r, c1, c2, c3, c4, c5, c6, c7, c8, c9⟩ := ri_top (d := d) (fr := fr) (dp := dp) hE hp hlp (fr_le (by omega) hf) (by omega)
    have hu : rua E fr dp = 0 := rua_0 (by omega)
    obtain ⟨Y, f1, f2, f3, f4, f5, f6⟩ := l_ri (E := E) (D := d + 1) (n := 0) (fr := fr) (dp := dp) (p := p) (r := r) (fr_le (by omega) hf) (by omega) (rua_le _ _) (fun k c H hk => absurd hk (by omega)) 0 0 X _ (by omega) c2 c3 (by omega) c5 (fun j hj => absurd hj (Nat.not_lt_zero _))
    exact ⟨Y, fun Q => (c1 Q).trans (f1 Q), f2, fun a ha hap => (f3 a (by omega) hap (by omega)).trans (c6 a ha hap), by omega, by unfold cN; omega, by unfold cN; omega⟩
  | succ n ih =>
    intro fr dp p H hd hf hp hlp
    obtain ⟨X, r, c1, c2, c3, c4, c5, c6, c7, c8, c9⟩ := ri_top (d := d + (n + 1)) (fr := fr) (dp := dp) hE hp hlp (fr_le (by omega) hf) (by omega)
    have hu := rua_le (E := E) fr dp
    have hpw : 65 * 2 ^ (dp + 1) = 2 * (65 * 2 ^ dp) := by rw [Nat.pow_succ]; omega
    obtain ⟨Y, f1, f2, f3, f4, f5, f6⟩ := l_ri (E := E) (D := d + (n + 1) + 1) (n := n + 1) (fr := fr) (dp := dp) (p := p) (r := r) (fr_le (by omega) hf) (by omega) hu (fun k c H hk h0 hc => by
      obtain ⟨Z, z1, z2, z3, z4, z5, z6⟩ := ih (fr * 2 + 3 + k) (dp + 1) c H (by omega) (by rw [hpw]; omega) h0 hc
      exact ⟨Z, fun Q => by rw [show d + (n + 1) + 1 = d + 2 + n by omega]; exact z1 Q, z2, z3, z4, z5, z6⟩) (rua E fr dp) 0 X _ (by omega) c2 c3 (by omega) c5 (fun j hj => absurd hj (Nat.not_lt_zero _))
    have hm : rua E fr dp * (1 + cN (n + 1)) ≤ 3 * (1 + cN (n + 1)) := Nat.mul_le_mul_right _ hu
    exact ⟨Y, fun Q => by rw [show d + 2 + (n + 1) = d + (n + 1) + 2 by omega]; exact (c1 Q).trans (f1 Q), f2, fun a ha hap => (f3 a (by omega) hap (by omega)).trans (c6 a ha hap), by omega, by unfold cN; omega, by unfold cN; omega⟩
end RMAKE
