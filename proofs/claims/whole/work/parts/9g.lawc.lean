/-! ===== the law's cases ===== -/
section LAWC
variable {E : xE} {d D n n' Ln Mn : Nat} {Q : xR → Prop} {X X1 H : xH} {Kb Ks Kt K l : Nat} {ep th k v : Int32} {La Ma : List Value} {i : Nat} {T : Nat → Nat} {tp : Nat → Int32} {b : Nat → Nat → Int32} {nm : Nat → Int64} {s : Nat → Int32} {a a' : Nat → Nat → Int32} {t t' : Nat → Int32} {g : Nat → Nat → Int32} {q : Nat → Int32} {co ro nk nc nn cnt : Nat} {rs re : Nat → Nat} {nw kp wc sk ms : Nat → Int32} {sz ea h : Int32} {W : Int32 → Int64 → Prop}
theorem lg_eq (x : Int64) : lg_cmp x x = 0 := by
  unfold lg_cmp
  simp
theorem xcl_fl {a ci : Nat} (h : 0 < (xfls X a ci).length) : xcl X a = ci := by
  unfold xfls at h
  unfold xcl
  split at h
  · rename_i c fs e
    by_cases p : c = ci
    · exact p
    · rw [if_neg p] at h
      exact absurd h (Nat.not_lt_zero _)
  · exact absurd h (Nat.not_lt_zero _)
theorem x63_M (h : X = mH H K th sz ea tp nw kp wc sk) : xcl X 63 = 11 := by rw [h]; exact mC
theorem x63_k (h : IVk n k X) : xcl X 63 = 11 := by
  obtain ⟨Kb, Ks, K, l, ep, T, tp, b, nm, s, a, t, g, q, co, ro, nk, nc, nn, cnt, rs, re, hD⟩ := h
  obtain ⟨kp, wc, sk, m1, _⟩ := ivD_th hD
  exact x63_M m1
theorem x63_I (h : IV n X) : xcl X 63 = 11 := by
  obtain ⟨Kb, Ks, K, l, ep, th, T, tp, b, nm, s, a, t, g, q, co, ro, nk, nc, nn, cnt, rs, re, hD⟩ := h
  obtain ⟨kp, wc, sk, m1, _⟩ := ivD_th hD
  exact x63_M m1
theorem x00_I (h : IV n X) : xcl X 0 = 8 := by
  obtain ⟨Kb, Ks, K, l, ep, th, T, tp, b, nm, s, a, t, g, q, co, ro, nk, nc, nn, cnt, rs, re, hD⟩ := h
  exact x0_of hD.1.1
theorem f_thr_M : xcall E xprog (d + 1) 149 [.ref 63] (mH H K th sz ea tp nw kp wc sk) Q = Q (.inl (some (.int th)), (mH H K th sz ea tp nw kp wc sk)) := by
  rw [e_M_thrown]
  simp only [s_M_thrown_0, s_M_thrown_1, s_M_thrown_4, mF, mC, ml_64, mf_64, mw_63, mw_64, ml_74, mf_74, mw_74, ml_75, mf_75, mw_75, ml_76, mf_76, mw_76, ml_77, mf_77, mw_77, xll_11, xlg_11_0, xlg_11_1, xlg_11_2, xlg_11_3, xlg_11_4, xlg_11_5, xlg_11_6, xlg_11_7, xlg_11_8, xls_11_0, xls_11_1, xls_11_2, xls_11_3, xls_11_4, xls_11_5, xls_11_6, xls_11_7, xls_11_8, not_false_eq_true, Nat.reduceLT, Nat.reduceAdd, true_and, and_true, if_true, if_false, ite_true, ite_false, xnb_0, xnb_1, xnb_b, xk_v, xk_n]
theorem f_thrown (h : IVk n k X) : ∀ Q, xcall E xprog (d + 1) 149 [.ref 63] X Q = Q (.inl (some (.int k)), X) := fun Q => by
  obtain ⟨Kb, Ks, K, l, ep, T, tp, b, nm, s, a, t, g, q, co, ro, nk, nc, nn, cnt, rs, re, hD⟩ := h
  obtain ⟨kp, wc, sk, m1, _⟩ := ivD_th hD
  refine (congrArg (fun Z => xcall E xprog (d + 1) 149 [.ref 63] Z Q) m1).trans (f_thr_M.trans ?_)
  rw [← m1]
/-- a case of the law: all stands again behind it -/
def lwG (E : xE) (d n' i A : Nat) (X : xH) : Prop := ∀ j5 j6 j7 j8 : Option Value, ∃ (X2 : xH) (q5 q6 q7 q8 : Option Value), (∀ Q, xr E (d + 160) m_L_law Q (A, [some (.retAddr 0), some (.ref 0), some (.ref 63), some (.ref 78), some (.int (nI i)), j5, j6, j7, j8], [], X) = xr E (d + 160) m_L_law Q (2064, [some (.retAddr 0), some (.ref 0), some (.ref 63), some (.ref 78), some (.int (nI i)), q5, q6, q7, q8], [], X2)) ∧ IV n' X2 ∧ X2.2.1 ≤ X.2.1 + 11 ∧ X2.2.2 ≤ X.2.2 + 884
theorem sz_1 {x y : Nat × Nat} (h : x = y ∨ x = (y.1 + 1, y.2 + 6)) : x.1 ≤ y.1 + 11 ∧ x.2 ≤ y.2 + 884 := by
  rcases h with h | h <;> rw [h] <;> exact ⟨by show _ ≤ _; omega, by show _ ≤ _; omega⟩
theorem nI_2 : nI i + 2 = nI (i + 2) := nI_ad i 2
theorem nI_3 : nI i + 3 = nI (i + 3) := nI_ad i 3
theorem nI_4 : nI i + 4 = nI (i + 4) := nI_ad i 4
theorem nI_5 : nI i + 5 = nI (i + 5) := nI_ad i 5
theorem J_l {f : Nat → Int64} (h : X.1 78 = xarJ 1 f) : xlenJ X 78 = 1 ∧ xfnJ X 78 = f := ⟨xJl_of h, xJf_of h⟩
theorem c63_feed {p0 p1 p2 p3 p4 : Int32} {r : xR} (hr : ∀ Q, xcall E xprog (d + 1) 154 [.ref 63, .int p0, .int p1, .int p2, .int p3, .int p4] X Q = Q r) : xcl X 63 = 11 := by
  have h := (hr (fun _ => True)).mpr trivial
  rw [e_M_feed, s_M_feed_0, s_M_feed_1, s_M_feed_2] at h
  exact xcl_fl (Nat.lt_of_le_of_lt (Nat.zero_le _) h.1)
theorem c63_trim {p0 : Int32} {r : xR} (hr : ∀ Q, xcall E xprog (d + 1) 155 [.ref 63, .int p0] X Q = Q r) : xcl X 63 = 11 := by
  have h := (hr (fun _ => True)).mpr trivial
  rw [e_M_trim, s_M_trim_0, s_M_trim_1, s_M_trim_2] at h
  exact xcl_fl (Nat.lt_of_le_of_lt (Nat.zero_le _) h.1)
theorem c63_hasCustoms {p0 p1 : Int32} {r : xR} (hr : ∀ Q, xcall E xprog (d + 1) 188 [.ref 63, .int p0, .int p1] X Q = Q r) : xcl X 63 = 11 := by
  have h := (hr (fun _ => True)).mpr trivial
  rw [e_M_hasCustoms, s_M_hasCustoms_0, s_M_hasCustoms_1, s_M_hasCustoms_2] at h
  exact xcl_fl (Nat.lt_of_le_of_lt (Nat.zero_le _) h.1)
theorem c63_hasSteam {p0 p1 : Int32} {r : xR} (hr : ∀ Q, xcall E xprog (d + 1) 189 [.ref 63, .int p0, .int p1] X Q = Q r) : xcl X 63 = 11 := by
  have h := (hr (fun _ => True)).mpr trivial
  rw [e_M_hasSteam, s_M_hasSteam_0, s_M_hasSteam_1, s_M_hasSteam_2] at h
  exact xcl_fl (Nat.lt_of_le_of_lt (Nat.zero_le _) h.1)
theorem c63_aromaAt {p0 p1 : Int32} {r : xR} (hr : ∀ Q, xcall E xprog (d + 1) 190 [.ref 63, .int p0, .int p1] X Q = Q r) : xcl X 63 = 11 := by
  have h := (hr (fun _ => True)).mpr trivial
  rw [e_M_aromaAt, s_M_aromaAt_0, s_M_aromaAt_1, s_M_aromaAt_2] at h
  exact xcl_fl (Nat.lt_of_le_of_lt (Nat.zero_le _) h.1)
theorem c63_becalmedFor {p0 : Int32} {r : xR} (hr : ∀ Q, xcall E xprog (d + 1) 191 [.ref 63, .int p0] X Q = Q r) : xcl X 63 = 11 := by
  have h := (hr (fun _ => True)).mpr trivial
  rw [e_M_becalmedFor, s_M_becalmedFor_0, s_M_becalmedFor_1, s_M_becalmedFor_2] at h
  exact xcl_fl (Nat.lt_of_le_of_lt (Nat.zero_le _) h.1)
theorem c63_visitsTo {p0 : Int32} {r : xR} (hr : ∀ Q, xcall E xprog (d + 1) 192 [.ref 63, .int p0] X Q = Q r) : xcl X 63 = 11 := by
  have h := (hr (fun _ => True)).mpr trivial
  rw [e_M_visitsTo, s_M_visitsTo_0, s_M_visitsTo_1, s_M_visitsTo_2] at h
  exact xcl_fl (Nat.lt_of_le_of_lt (Nat.zero_le _) h.1)
theorem c63_columnOf {p0 : Int32} {r : xR} (hr : ∀ Q, xcall E xprog (d + 1) 197 [.ref 63, .int p0] X Q = Q r) : xcl X 63 = 11 := by
  have h := (hr (fun _ => True)).mpr trivial
  rw [e_M_columnOf, s_M_columnOf_0, s_M_columnOf_1, s_M_columnOf_2, s_M_columnOf_3] at h
  exact h.1
theorem c63_rowOf {p0 : Int32} {r : xR} (hr : ∀ Q, xcall E xprog (d + 1) 198 [.ref 63, .int p0] X Q = Q r) : xcl X 63 = 11 := by
  have h := (hr (fun _ => True)).mpr trivial
  rw [e_M_rowOf, s_M_rowOf_0, s_M_rowOf_1, s_M_rowOf_2, s_M_rowOf_3] at h
  exact h.1
theorem c63_isHome {p0 : Int32} {r : xR} (hr : ∀ Q, xcall E xprog (d + 1) 199 [.ref 63, .int p0] X Q = Q r) : xcl X 63 = 11 := by
  have h := (hr (fun _ => True)).mpr trivial
  rw [e_M_isHome, s_M_isHome_0, s_M_isHome_1, s_M_isHome_2] at h
  exact xcl_fl (Nat.lt_of_le_of_lt (Nat.zero_le _) h.1)
theorem c63_leafOf {p0 : Int32} {r : xR} (hr : ∀ Q, xcall E xprog (d + 1) 200 [.ref 63, .int p0] X Q = Q r) : xcl X 63 = 11 := by
  have h := (hr (fun _ => True)).mpr trivial
  rw [e_M_leafOf, s_M_leafOf_0, s_M_leafOf_1, s_M_leafOf_2, s_M_leafOf_3] at h
  exact h.1
theorem c63_wayOf {p0 : Int32} {r : xR} (hr : ∀ Q, xcall E xprog (d + 1) 201 [.ref 63, .int p0] X Q = Q r) : xcl X 63 = 11 := by
  have h := (hr (fun _ => True)).mpr trivial
  rw [e_M_wayOf, s_M_wayOf_0, s_M_wayOf_1, s_M_wayOf_2, s_M_wayOf_3] at h
  exact h.1
theorem c63_speedOf {p0 : Int32} {r : xR} (hr : ∀ Q, xcall E xprog (d + 1) 202 [.ref 63, .int p0] X Q = Q r) : xcl X 63 = 11 := by
  have h := (hr (fun _ => True)).mpr trivial
  rw [e_M_speedOf, s_M_speedOf_0, s_M_speedOf_1, s_M_speedOf_2] at h
  exact xcl_fl (Nat.lt_of_le_of_lt (Nat.zero_le _) h.1)
theorem c63_pointsOf {p0 : Int32} {r : xR} (hr : ∀ Q, xcall E xprog (d + 1) 203 [.ref 63, .int p0] X Q = Q r) : xcl X 63 = 11 := by
  have h := (hr (fun _ => True)).mpr trivial
  rw [e_M_pointsOf, s_M_pointsOf_0, s_M_pointsOf_1, s_M_pointsOf_2, s_M_pointsOf_3] at h
  exact h.1
theorem c63_sipsOf {p0 : Int32} {r : xR} (hr : ∀ Q, xcall E xprog (d + 1) 204 [.ref 63, .int p0] X Q = Q r) : xcl X 63 = 11 := by
  have h := (hr (fun _ => True)).mpr trivial
  rw [e_M_sipsOf, s_M_sipsOf_0, s_M_sipsOf_1, s_M_sipsOf_2, s_M_sipsOf_3] at h
  exact h.1
theorem c63_smells {p0 p1 : Int32} {r : xR} (hr : ∀ Q, xcall E xprog (d + 1) 205 [.ref 63, .int p0, .int p1] X Q = Q r) : xcl X 63 = 11 := by
  have h := (hr (fun _ => True)).mpr trivial
  rw [e_M_smells, s_M_smells_0, s_M_smells_1, s_M_smells_2] at h
  exact xcl_fl (Nat.lt_of_le_of_lt (Nat.zero_le _) h.1)
theorem c63_ruleTells {p0 : Int32} {r : xR} (hr : ∀ Q, xcall E xprog (d + 1) 206 [.ref 63, .int p0] X Q = Q r) : xcl X 63 = 11 := by
  have h := (hr (fun _ => True)).mpr trivial
  rw [e_M_ruleTells, s_M_ruleTells_0, s_M_ruleTells_1, s_M_ruleTells_2] at h
  exact xcl_fl (Nat.lt_of_le_of_lt (Nat.zero_le _) h.1)
theorem c63_wouldStay {p0 : Int32} {r : xR} (hr : ∀ Q, xcall E xprog (d + 1) 207 [.ref 63, .int p0] X Q = Q r) : xcl X 63 = 11 := by
  have h := (hr (fun _ => True)).mpr trivial
  rw [e_M_wouldStay, s_M_wouldStay_0, s_M_wouldStay_1, s_M_wouldStay_2] at h
  exact xcl_fl (Nat.lt_of_le_of_lt (Nat.zero_le _) h.1)
theorem c63_steersTo {p0 : Int32} {r : xR} (hr : ∀ Q, xcall E xprog (d + 1) 208 [.ref 63, .int p0] X Q = Q r) : xcl X 63 = 11 := by
  have h := (hr (fun _ => True)).mpr trivial
  rw [e_M_steersTo, s_M_steersTo_0, s_M_steersTo_1, s_M_steersTo_2] at h
  exact xcl_fl (Nat.lt_of_le_of_lt (Nat.zero_le _) h.1)
theorem c63_leader {r : xR} (hr : ∀ Q, xcall E xprog (d + 1) 209 [.ref 63] X Q = Q r) : xcl X 63 = 11 := by
  have h := (hr (fun _ => True)).mpr trivial
  rw [e_M_leader, s_M_leader_0, s_M_leader_1, s_M_leader_2] at h
  exact xcl_fl (Nat.lt_of_le_of_lt (Nat.zero_le _) h.1)
theorem c63_setWind {p0 p1 : Int32} {r : xR} (hr : ∀ Q, xcall E xprog (d + 1) 210 [.ref 63, .int p0, .int p1] X Q = Q r) : xcl X 63 = 11 := by
  have h := (hr (fun _ => True)).mpr trivial
  rw [e_M_setWind, s_M_setWind_0, s_M_setWind_1, s_M_setWind_2] at h
  exact xcl_fl (Nat.lt_of_le_of_lt (Nat.zero_le _) h.1)
theorem c63_jettison {p0 p1 : Int32} {r : xR} (hr : ∀ Q, xcall E xprog (d + 1) 211 [.ref 63, .int p0, .int p1] X Q = Q r) : xcl X 63 = 11 := by
  have h := (hr (fun _ => True)).mpr trivial
  rw [e_M_jettison, s_M_jettison_0, s_M_jettison_1, s_M_jettison_2] at h
  exact xcl_fl (Nat.lt_of_le_of_lt (Nat.zero_le _) h.1)
theorem c63_calmKettle {p0 p1 : Int32} {r : xR} (hr : ∀ Q, xcall E xprog (d + 1) 212 [.ref 63, .int p0, .int p1] X Q = Q r) : xcl X 63 = 11 := by
  have h := (hr (fun _ => True)).mpr trivial
  rw [e_M_calmKettle, s_M_calmKettle_0, s_M_calmKettle_1, s_M_calmKettle_2] at h
  exact xcl_fl (Nat.lt_of_le_of_lt (Nat.zero_le _) h.1)
theorem c63_sail {p0 : Int32} {r : xR} (hr : ∀ Q, xcall E xprog (d + 1) 213 [.ref 63, .int p0] X Q = Q r) : xcl X 63 = 11 := by
  have h := (hr (fun _ => True)).mpr trivial
  rw [e_M_sail, s_M_sail_0, s_M_sail_1, s_M_sail_2] at h
  exact xcl_fl (Nat.lt_of_le_of_lt (Nat.zero_le _) h.1)
theorem c63_pointsBehind {p0 p1 : Int32} {r : xR} (hr : ∀ Q, xcall E xprog (d + 1) 214 [.ref 63, .int p0, .int p1] X Q = Q r) : xcl X 63 = 11 := by
  have h := (hr (fun _ => True)).mpr trivial
  rw [e_M_pointsBehind, s_M_pointsBehind_0, s_M_pointsBehind_1, s_M_pointsBehind_2] at h
  exact xcl_fl (Nat.lt_of_le_of_lt (Nat.zero_le _) h.1)
theorem c63_hoursUntilPoints {p0 : Int32} {r : xR} (hr : ∀ Q, xcall E xprog (d + 1) 215 [.ref 63, .int p0] X Q = Q r) : xcl X 63 = 11 := by
  have h := (hr (fun _ => True)).mpr trivial
  rw [e_M_hoursUntilPoints, s_M_hoursUntilPoints_0, s_M_hoursUntilPoints_1, s_M_hoursUntilPoints_2] at h
  exact xcl_fl (Nat.lt_of_le_of_lt (Nat.zero_le _) h.1)
theorem c63_bestWind {p0 p1 : Int32} {r : xR} (hr : ∀ Q, xcall E xprog (d + 1) 216 [.ref 63, .int p0, .int p1] X Q = Q r) : xcl X 63 = 11 := by
  have h := (hr (fun _ => True)).mpr trivial
  rw [e_M_bestWind, s_M_bestWind_0, s_M_bestWind_1, s_M_bestWind_2] at h
  exact xcl_fl (Nat.lt_of_le_of_lt (Nat.zero_le _) h.1)
theorem lw_feed (hi : i + 6 ≤ E.1) (hL : E.1 < 2147483648) (h : ∃ (k v : Int32) (X1 X2 : xH), (∀ Q, xcall E xprog (d + 160) 231 [.ref 0, .int (E.2 (i + 1)), .int (E.2 (i + 2)), .int (E.2 (i + 3)), .int (E.2 (i + 4)), .int (E.2 (i + 5)), .ref 78] X Q = Q (.inl (some (.int k)), X1)) ∧ (∀ Q, xcall E xprog (d + 160) 154 [.ref 63, .int (E.2 (i + 1)), .int (E.2 (i + 2)), .int (E.2 (i + 3)), .int (E.2 (i + 4)), .int (E.2 (i + 5))] X1 Q = Q (.inl (some (.int v)), X2)) ∧ IVk n' k X2 ∧ (k = 0 → ∃ f : Nat → Int64, X2.1 78 = xarJ 1 f ∧ wI v (f 0)) ∧ (X2.2 = (X.2.1 + 1, X.2.2 + 5) ∨ X2.2 = (X.2.1 + 1, X.2.2 + 6))) : lwG E d n' i 208 X := by
  intro j5 j6 j7 j8
  obtain ⟨k, v, X1, X2, r1, r2, h3, h4, h5⟩ := h
  have x1 := c63_feed (d := d + 159) r2
  have x2 := x63_k h3
  have ft := f_thrown (E := E) (d := d + 159) h3
  refine ⟨X2, some (.int k), some (.int v), j7, j8, fun Q => ?_, IVk_IV h3, (by rcases h5 with z | z <;> rw [z] <;> exact ⟨by show _ ≤ _; omega, by show _ ≤ _; omega⟩)⟩
  by_cases p : k = 0
  · obtain ⟨f, f1, f2⟩ := h4 p
    have f3 := (J_l f1).1
    have f4 := (J_l f1).2
    subst p
    have f5 : f 0 = v.toInt64 := f2
    simp only [s_L_law_208, s_L_law_209, s_L_law_210, s_L_law_212, s_L_law_213, s_L_law_214, s_L_law_215, s_L_law_216, s_L_law_218, s_L_law_219, s_L_law_220, s_L_law_221, s_L_law_222, s_L_law_224, s_L_law_225, s_L_law_226, s_L_law_227, s_L_law_228, s_L_law_230, s_L_law_231, s_L_law_232, s_L_law_233, s_L_law_234, s_L_law_236, s_L_law_237, s_L_law_238, s_L_law_239, s_L_law_240, s_L_law_243, s_L_law_245, s_L_law_246, s_L_law_247, s_L_law_249, s_L_law_250, s_L_law_251, s_L_law_252, s_L_law_253, s_L_law_255, s_L_law_256, s_L_law_257, s_L_law_258, s_L_law_259, s_L_law_261, s_L_law_262, s_L_law_263, s_L_law_264, s_L_law_265, s_L_law_267, s_L_law_268, s_L_law_269, s_L_law_270, s_L_law_271, s_L_law_273, s_L_law_274, s_L_law_275, s_L_law_276, s_L_law_279, s_L_law_281, s_L_law_282, s_L_law_285, s_L_law_287, s_L_law_290, s_L_law_291, s_L_law_292, s_L_law_294, s_L_law_297, s_L_law_298, s_L_law_299, s_L_law_300, s_L_law_302, s_L_law_303, s_L_law_304, s_L_law_307, s_L_law_308, s_L_law_309, not_false_eq_true, Nat.reduceLT, Nat.reduceAdd, true_and, and_true, if_true, if_false, ite_true, ite_false, xnb_0, xnb_1, xnb_b, xk_v, xk_n, nvp (show i + 1 < E.1 by omega) hL, ncl (show i + 1 < 2147483648 by omega), nvp (show i + 2 < E.1 by omega) hL, ncl (show i + 2 < 2147483648 by omega), nvp (show i + 3 < E.1 by omega) hL, ncl (show i + 3 < 2147483648 by omega), nvp (show i + 4 < E.1 by omega) hL, ncl (show i + 4 < 2147483648 by omega), nvp (show i + 5 < E.1 by omega) hL, ncl (show i + 5 < 2147483648 by omega), nI_1, nI_2, nI_3, nI_4, nI_5, r1, r2, x1, x2, ft, f3, f4, show vp_in (0 : Int32) 1 = True from nvp (i := 0) (by omega) (by omega), show (0 : Int32).toNatClampNeg = 0 from rfl, f5, lg_eq]
  · simp only [s_L_law_208, s_L_law_209, s_L_law_210, s_L_law_212, s_L_law_213, s_L_law_214, s_L_law_215, s_L_law_216, s_L_law_218, s_L_law_219, s_L_law_220, s_L_law_221, s_L_law_222, s_L_law_224, s_L_law_225, s_L_law_226, s_L_law_227, s_L_law_228, s_L_law_230, s_L_law_231, s_L_law_232, s_L_law_233, s_L_law_234, s_L_law_236, s_L_law_237, s_L_law_238, s_L_law_239, s_L_law_240, s_L_law_243, s_L_law_245, s_L_law_246, s_L_law_247, s_L_law_249, s_L_law_250, s_L_law_251, s_L_law_252, s_L_law_253, s_L_law_255, s_L_law_256, s_L_law_257, s_L_law_258, s_L_law_259, s_L_law_261, s_L_law_262, s_L_law_263, s_L_law_264, s_L_law_265, s_L_law_267, s_L_law_268, s_L_law_269, s_L_law_270, s_L_law_271, s_L_law_273, s_L_law_274, s_L_law_275, s_L_law_276, s_L_law_279, s_L_law_281, s_L_law_282, s_L_law_285, s_L_law_287, s_L_law_290, s_L_law_291, s_L_law_292, s_L_law_294, s_L_law_297, s_L_law_298, s_L_law_299, s_L_law_300, s_L_law_302, s_L_law_303, s_L_law_304, s_L_law_307, s_L_law_308, s_L_law_309, not_false_eq_true, Nat.reduceLT, Nat.reduceAdd, true_and, and_true, if_true, if_false, ite_true, ite_false, xnb_0, xnb_1, xnb_b, xk_v, xk_n, nvp (show i + 1 < E.1 by omega) hL, ncl (show i + 1 < 2147483648 by omega), nvp (show i + 2 < E.1 by omega) hL, ncl (show i + 2 < 2147483648 by omega), nvp (show i + 3 < E.1 by omega) hL, ncl (show i + 3 < 2147483648 by omega), nvp (show i + 4 < E.1 by omega) hL, ncl (show i + 4 < 2147483648 by omega), nvp (show i + 5 < E.1 by omega) hL, ncl (show i + 5 < 2147483648 by omega), nI_1, nI_2, nI_3, nI_4, nI_5, r1, r2, x1, x2, ft, eq_false p]
theorem lw_trim (hi : i + 6 ≤ E.1) (hL : E.1 < 2147483648) (h : stP E (d + 160) 232 [.ref 0, .int (E.2 (i + 1)), .ref 78] 155 [.ref 63, .int (E.2 (i + 1))] n' wI X) : lwG E d n' i 312 X := by
  intro j5 j6 j7 j8
  obtain ⟨k, v, X1, X2, r1, r2, h3, h4, h5⟩ := h
  have x1 := c63_trim (d := d + 159) r2
  have x2 := x63_k h3
  have ft := f_thrown (E := E) (d := d + 159) h3
  refine ⟨X2, some (.int k), some (.int v), j7, j8, fun Q => ?_, IVk_IV h3, sz_1 h5⟩
  by_cases p : k = 0
  · obtain ⟨f, f1, f2⟩ := h4 p
    have f3 := (J_l f1).1
    have f4 := (J_l f1).2
    subst p
    have f5 : f 0 = v.toInt64 := f2
    simp only [s_L_law_312, s_L_law_313, s_L_law_314, s_L_law_316, s_L_law_317, s_L_law_318, s_L_law_319, s_L_law_320, s_L_law_323, s_L_law_325, s_L_law_326, s_L_law_327, s_L_law_329, s_L_law_330, s_L_law_331, s_L_law_332, s_L_law_335, s_L_law_337, s_L_law_338, s_L_law_341, s_L_law_343, s_L_law_346, s_L_law_347, s_L_law_348, s_L_law_350, s_L_law_353, s_L_law_354, s_L_law_355, s_L_law_356, s_L_law_358, s_L_law_359, s_L_law_360, s_L_law_363, s_L_law_364, s_L_law_365, not_false_eq_true, Nat.reduceLT, Nat.reduceAdd, true_and, and_true, if_true, if_false, ite_true, ite_false, xnb_0, xnb_1, xnb_b, xk_v, xk_n, nvp (show i + 1 < E.1 by omega) hL, ncl (show i + 1 < 2147483648 by omega), nI_1, nI_2, nI_3, nI_4, nI_5, r1, r2, x1, x2, ft, f3, f4, show vp_in (0 : Int32) 1 = True from nvp (i := 0) (by omega) (by omega), show (0 : Int32).toNatClampNeg = 0 from rfl, f5, lg_eq]
  · simp only [s_L_law_312, s_L_law_313, s_L_law_314, s_L_law_316, s_L_law_317, s_L_law_318, s_L_law_319, s_L_law_320, s_L_law_323, s_L_law_325, s_L_law_326, s_L_law_327, s_L_law_329, s_L_law_330, s_L_law_331, s_L_law_332, s_L_law_335, s_L_law_337, s_L_law_338, s_L_law_341, s_L_law_343, s_L_law_346, s_L_law_347, s_L_law_348, s_L_law_350, s_L_law_353, s_L_law_354, s_L_law_355, s_L_law_356, s_L_law_358, s_L_law_359, s_L_law_360, s_L_law_363, s_L_law_364, s_L_law_365, not_false_eq_true, Nat.reduceLT, Nat.reduceAdd, true_and, and_true, if_true, if_false, ite_true, ite_false, xnb_0, xnb_1, xnb_b, xk_v, xk_n, nvp (show i + 1 < E.1 by omega) hL, ncl (show i + 1 < 2147483648 by omega), nI_1, nI_2, nI_3, nI_4, nI_5, r1, r2, x1, x2, ft, eq_false p]
theorem lw_hasCustoms (hi : i + 6 ≤ E.1) (hL : E.1 < 2147483648) (h : stP E (d + 160) 233 [.ref 0, .int (E.2 (i + 1)), .int (E.2 (i + 2)), .ref 78] 188 [.ref 63, .int (E.2 (i + 1)), .int (E.2 (i + 2))] n' wB X) : lwG E d n' i 446 X := by
  intro j5 j6 j7 j8
  obtain ⟨k, v, X1, X2, r1, r2, h3, h4, h5⟩ := h
  have x1 := c63_hasCustoms (d := d + 159) r2
  have x2 := x63_k h3
  have ft := f_thrown (E := E) (d := d + 159) h3
  refine ⟨X2, some (.int k), some (.int v), j7, j8, fun Q => ?_, IVk_IV h3, sz_1 h5⟩
  by_cases p : k = 0
  · obtain ⟨f, f1, f2⟩ := h4 p
    have f3 := (J_l f1).1
    have f4 := (J_l f1).2
    subst p
    rcases f2 with ⟨g1, g2⟩ | ⟨g1, g2⟩
    · subst g1
      simp only [s_L_law_446, s_L_law_447, s_L_law_448, s_L_law_450, s_L_law_451, s_L_law_452, s_L_law_453, s_L_law_454, s_L_law_456, s_L_law_457, s_L_law_458, s_L_law_459, s_L_law_460, s_L_law_463, s_L_law_465, s_L_law_466, s_L_law_467, s_L_law_469, s_L_law_470, s_L_law_471, s_L_law_472, s_L_law_473, s_L_law_475, s_L_law_476, s_L_law_477, s_L_law_478, s_L_law_481, s_L_law_483, s_L_law_484, s_L_law_487, s_L_law_489, s_L_law_492, s_L_law_493, s_L_law_494, s_L_law_496, s_L_law_499, s_L_law_500, s_L_law_501, s_L_law_502, s_L_law_504, s_L_law_507, s_L_law_508, s_L_law_511, s_L_law_512, s_L_law_513, s_L_law_516, s_L_law_517, s_L_law_518, not_false_eq_true, Nat.reduceLT, Nat.reduceAdd, true_and, and_true, if_true, if_false, ite_true, ite_false, xnb_0, xnb_1, xnb_b, xk_v, xk_n, nvp (show i + 1 < E.1 by omega) hL, ncl (show i + 1 < 2147483648 by omega), nvp (show i + 2 < E.1 by omega) hL, ncl (show i + 2 < 2147483648 by omega), nI_1, nI_2, nI_3, nI_4, nI_5, r1, r2, x1, x2, ft, f3, f4, show vp_in (0 : Int32) 1 = True from nvp (i := 0) (by omega) (by omega), show (0 : Int32).toNatClampNeg = 0 from rfl, g2, ne_1, lg_eq]
    · subst g1
      simp only [s_L_law_446, s_L_law_447, s_L_law_448, s_L_law_450, s_L_law_451, s_L_law_452, s_L_law_453, s_L_law_454, s_L_law_456, s_L_law_457, s_L_law_458, s_L_law_459, s_L_law_460, s_L_law_463, s_L_law_465, s_L_law_466, s_L_law_467, s_L_law_469, s_L_law_470, s_L_law_471, s_L_law_472, s_L_law_473, s_L_law_475, s_L_law_476, s_L_law_477, s_L_law_478, s_L_law_481, s_L_law_483, s_L_law_484, s_L_law_487, s_L_law_489, s_L_law_492, s_L_law_493, s_L_law_494, s_L_law_496, s_L_law_499, s_L_law_500, s_L_law_501, s_L_law_502, s_L_law_504, s_L_law_507, s_L_law_508, s_L_law_511, s_L_law_512, s_L_law_513, s_L_law_516, s_L_law_517, s_L_law_518, not_false_eq_true, Nat.reduceLT, Nat.reduceAdd, true_and, and_true, if_true, if_false, ite_true, ite_false, xnb_0, xnb_1, xnb_b, xk_v, xk_n, nvp (show i + 1 < E.1 by omega) hL, ncl (show i + 1 < 2147483648 by omega), nvp (show i + 2 < E.1 by omega) hL, ncl (show i + 2 < 2147483648 by omega), nI_1, nI_2, nI_3, nI_4, nI_5, r1, r2, x1, x2, ft, f3, f4, show vp_in (0 : Int32) 1 = True from nvp (i := 0) (by omega) (by omega), show (0 : Int32).toNatClampNeg = 0 from rfl, g2, lg_eq]
  · simp only [s_L_law_446, s_L_law_447, s_L_law_448, s_L_law_450, s_L_law_451, s_L_law_452, s_L_law_453, s_L_law_454, s_L_law_456, s_L_law_457, s_L_law_458, s_L_law_459, s_L_law_460, s_L_law_463, s_L_law_465, s_L_law_466, s_L_law_467, s_L_law_469, s_L_law_470, s_L_law_471, s_L_law_472, s_L_law_473, s_L_law_475, s_L_law_476, s_L_law_477, s_L_law_478, s_L_law_481, s_L_law_483, s_L_law_484, s_L_law_487, s_L_law_489, s_L_law_492, s_L_law_493, s_L_law_494, s_L_law_496, s_L_law_499, s_L_law_500, s_L_law_501, s_L_law_502, s_L_law_504, s_L_law_507, s_L_law_508, s_L_law_511, s_L_law_512, s_L_law_513, s_L_law_516, s_L_law_517, s_L_law_518, not_false_eq_true, Nat.reduceLT, Nat.reduceAdd, true_and, and_true, if_true, if_false, ite_true, ite_false, xnb_0, xnb_1, xnb_b, xk_v, xk_n, nvp (show i + 1 < E.1 by omega) hL, ncl (show i + 1 < 2147483648 by omega), nvp (show i + 2 < E.1 by omega) hL, ncl (show i + 2 < 2147483648 by omega), nI_1, nI_2, nI_3, nI_4, nI_5, r1, r2, x1, x2, ft, eq_false p]
theorem lw_hasSteam (hi : i + 6 ≤ E.1) (hL : E.1 < 2147483648) (h : stP E (d + 160) 234 [.ref 0, .int (E.2 (i + 1)), .int (E.2 (i + 2)), .ref 78] 189 [.ref 63, .int (E.2 (i + 1)), .int (E.2 (i + 2))] n' wB X) : lwG E d n' i 521 X := by
  intro j5 j6 j7 j8
  obtain ⟨k, v, X1, X2, r1, r2, h3, h4, h5⟩ := h
  have x1 := c63_hasSteam (d := d + 159) r2
  have x2 := x63_k h3
  have ft := f_thrown (E := E) (d := d + 159) h3
  refine ⟨X2, some (.int k), some (.int v), j7, j8, fun Q => ?_, IVk_IV h3, sz_1 h5⟩
  by_cases p : k = 0
  · obtain ⟨f, f1, f2⟩ := h4 p
    have f3 := (J_l f1).1
    have f4 := (J_l f1).2
    subst p
    rcases f2 with ⟨g1, g2⟩ | ⟨g1, g2⟩
    · subst g1
      simp only [s_L_law_521, s_L_law_522, s_L_law_523, s_L_law_525, s_L_law_526, s_L_law_527, s_L_law_528, s_L_law_529, s_L_law_531, s_L_law_532, s_L_law_533, s_L_law_534, s_L_law_535, s_L_law_538, s_L_law_540, s_L_law_541, s_L_law_542, s_L_law_544, s_L_law_545, s_L_law_546, s_L_law_547, s_L_law_548, s_L_law_550, s_L_law_551, s_L_law_552, s_L_law_553, s_L_law_556, s_L_law_558, s_L_law_559, s_L_law_562, s_L_law_564, s_L_law_567, s_L_law_568, s_L_law_569, s_L_law_571, s_L_law_574, s_L_law_575, s_L_law_576, s_L_law_577, s_L_law_579, s_L_law_582, s_L_law_583, s_L_law_586, s_L_law_587, s_L_law_588, s_L_law_591, s_L_law_592, s_L_law_593, not_false_eq_true, Nat.reduceLT, Nat.reduceAdd, true_and, and_true, if_true, if_false, ite_true, ite_false, xnb_0, xnb_1, xnb_b, xk_v, xk_n, nvp (show i + 1 < E.1 by omega) hL, ncl (show i + 1 < 2147483648 by omega), nvp (show i + 2 < E.1 by omega) hL, ncl (show i + 2 < 2147483648 by omega), nI_1, nI_2, nI_3, nI_4, nI_5, r1, r2, x1, x2, ft, f3, f4, show vp_in (0 : Int32) 1 = True from nvp (i := 0) (by omega) (by omega), show (0 : Int32).toNatClampNeg = 0 from rfl, g2, ne_1, lg_eq]
    · subst g1
      simp only [s_L_law_521, s_L_law_522, s_L_law_523, s_L_law_525, s_L_law_526, s_L_law_527, s_L_law_528, s_L_law_529, s_L_law_531, s_L_law_532, s_L_law_533, s_L_law_534, s_L_law_535, s_L_law_538, s_L_law_540, s_L_law_541, s_L_law_542, s_L_law_544, s_L_law_545, s_L_law_546, s_L_law_547, s_L_law_548, s_L_law_550, s_L_law_551, s_L_law_552, s_L_law_553, s_L_law_556, s_L_law_558, s_L_law_559, s_L_law_562, s_L_law_564, s_L_law_567, s_L_law_568, s_L_law_569, s_L_law_571, s_L_law_574, s_L_law_575, s_L_law_576, s_L_law_577, s_L_law_579, s_L_law_582, s_L_law_583, s_L_law_586, s_L_law_587, s_L_law_588, s_L_law_591, s_L_law_592, s_L_law_593, not_false_eq_true, Nat.reduceLT, Nat.reduceAdd, true_and, and_true, if_true, if_false, ite_true, ite_false, xnb_0, xnb_1, xnb_b, xk_v, xk_n, nvp (show i + 1 < E.1 by omega) hL, ncl (show i + 1 < 2147483648 by omega), nvp (show i + 2 < E.1 by omega) hL, ncl (show i + 2 < 2147483648 by omega), nI_1, nI_2, nI_3, nI_4, nI_5, r1, r2, x1, x2, ft, f3, f4, show vp_in (0 : Int32) 1 = True from nvp (i := 0) (by omega) (by omega), show (0 : Int32).toNatClampNeg = 0 from rfl, g2, lg_eq]
  · simp only [s_L_law_521, s_L_law_522, s_L_law_523, s_L_law_525, s_L_law_526, s_L_law_527, s_L_law_528, s_L_law_529, s_L_law_531, s_L_law_532, s_L_law_533, s_L_law_534, s_L_law_535, s_L_law_538, s_L_law_540, s_L_law_541, s_L_law_542, s_L_law_544, s_L_law_545, s_L_law_546, s_L_law_547, s_L_law_548, s_L_law_550, s_L_law_551, s_L_law_552, s_L_law_553, s_L_law_556, s_L_law_558, s_L_law_559, s_L_law_562, s_L_law_564, s_L_law_567, s_L_law_568, s_L_law_569, s_L_law_571, s_L_law_574, s_L_law_575, s_L_law_576, s_L_law_577, s_L_law_579, s_L_law_582, s_L_law_583, s_L_law_586, s_L_law_587, s_L_law_588, s_L_law_591, s_L_law_592, s_L_law_593, not_false_eq_true, Nat.reduceLT, Nat.reduceAdd, true_and, and_true, if_true, if_false, ite_true, ite_false, xnb_0, xnb_1, xnb_b, xk_v, xk_n, nvp (show i + 1 < E.1 by omega) hL, ncl (show i + 1 < 2147483648 by omega), nvp (show i + 2 < E.1 by omega) hL, ncl (show i + 2 < 2147483648 by omega), nI_1, nI_2, nI_3, nI_4, nI_5, r1, r2, x1, x2, ft, eq_false p]
theorem lw_aromaAt (hi : i + 6 ≤ E.1) (hL : E.1 < 2147483648) (h : stP E (d + 160) 235 [.ref 0, .int (E.2 (i + 1)), .int (E.2 (i + 2)), .ref 78] 190 [.ref 63, .int (E.2 (i + 1)), .int (E.2 (i + 2))] n' wI X) : lwG E d n' i 596 X := by
  intro j5 j6 j7 j8
  obtain ⟨k, v, X1, X2, r1, r2, h3, h4, h5⟩ := h
  have x1 := c63_aromaAt (d := d + 159) r2
  have x2 := x63_k h3
  have ft := f_thrown (E := E) (d := d + 159) h3
  refine ⟨X2, some (.int k), some (.int v), j7, j8, fun Q => ?_, IVk_IV h3, sz_1 h5⟩
  by_cases p : k = 0
  · obtain ⟨f, f1, f2⟩ := h4 p
    have f3 := (J_l f1).1
    have f4 := (J_l f1).2
    subst p
    have f5 : f 0 = v.toInt64 := f2
    simp only [s_L_law_596, s_L_law_597, s_L_law_598, s_L_law_600, s_L_law_601, s_L_law_602, s_L_law_603, s_L_law_604, s_L_law_606, s_L_law_607, s_L_law_608, s_L_law_609, s_L_law_610, s_L_law_613, s_L_law_615, s_L_law_616, s_L_law_617, s_L_law_619, s_L_law_620, s_L_law_621, s_L_law_622, s_L_law_623, s_L_law_625, s_L_law_626, s_L_law_627, s_L_law_628, s_L_law_631, s_L_law_633, s_L_law_634, s_L_law_637, s_L_law_639, s_L_law_642, s_L_law_643, s_L_law_644, s_L_law_646, s_L_law_649, s_L_law_650, s_L_law_651, s_L_law_652, s_L_law_654, s_L_law_655, s_L_law_656, s_L_law_659, s_L_law_660, s_L_law_661, not_false_eq_true, Nat.reduceLT, Nat.reduceAdd, true_and, and_true, if_true, if_false, ite_true, ite_false, xnb_0, xnb_1, xnb_b, xk_v, xk_n, nvp (show i + 1 < E.1 by omega) hL, ncl (show i + 1 < 2147483648 by omega), nvp (show i + 2 < E.1 by omega) hL, ncl (show i + 2 < 2147483648 by omega), nI_1, nI_2, nI_3, nI_4, nI_5, r1, r2, x1, x2, ft, f3, f4, show vp_in (0 : Int32) 1 = True from nvp (i := 0) (by omega) (by omega), show (0 : Int32).toNatClampNeg = 0 from rfl, f5, lg_eq]
  · simp only [s_L_law_596, s_L_law_597, s_L_law_598, s_L_law_600, s_L_law_601, s_L_law_602, s_L_law_603, s_L_law_604, s_L_law_606, s_L_law_607, s_L_law_608, s_L_law_609, s_L_law_610, s_L_law_613, s_L_law_615, s_L_law_616, s_L_law_617, s_L_law_619, s_L_law_620, s_L_law_621, s_L_law_622, s_L_law_623, s_L_law_625, s_L_law_626, s_L_law_627, s_L_law_628, s_L_law_631, s_L_law_633, s_L_law_634, s_L_law_637, s_L_law_639, s_L_law_642, s_L_law_643, s_L_law_644, s_L_law_646, s_L_law_649, s_L_law_650, s_L_law_651, s_L_law_652, s_L_law_654, s_L_law_655, s_L_law_656, s_L_law_659, s_L_law_660, s_L_law_661, not_false_eq_true, Nat.reduceLT, Nat.reduceAdd, true_and, and_true, if_true, if_false, ite_true, ite_false, xnb_0, xnb_1, xnb_b, xk_v, xk_n, nvp (show i + 1 < E.1 by omega) hL, ncl (show i + 1 < 2147483648 by omega), nvp (show i + 2 < E.1 by omega) hL, ncl (show i + 2 < 2147483648 by omega), nI_1, nI_2, nI_3, nI_4, nI_5, r1, r2, x1, x2, ft, eq_false p]
theorem lw_becalmedFor (hi : i + 6 ≤ E.1) (hL : E.1 < 2147483648) (h : stP E (d + 160) 236 [.ref 0, .int (E.2 (i + 1)), .ref 78] 191 [.ref 63, .int (E.2 (i + 1))] n' wI X) : lwG E d n' i 664 X := by
  intro j5 j6 j7 j8
  obtain ⟨k, v, X1, X2, r1, r2, h3, h4, h5⟩ := h
  have x1 := c63_becalmedFor (d := d + 159) r2
  have x2 := x63_k h3
  have ft := f_thrown (E := E) (d := d + 159) h3
  refine ⟨X2, some (.int k), some (.int v), j7, j8, fun Q => ?_, IVk_IV h3, sz_1 h5⟩
  by_cases p : k = 0
  · obtain ⟨f, f1, f2⟩ := h4 p
    have f3 := (J_l f1).1
    have f4 := (J_l f1).2
    subst p
    have f5 : f 0 = v.toInt64 := f2
    simp only [s_L_law_664, s_L_law_665, s_L_law_666, s_L_law_668, s_L_law_669, s_L_law_670, s_L_law_671, s_L_law_672, s_L_law_675, s_L_law_677, s_L_law_678, s_L_law_679, s_L_law_681, s_L_law_682, s_L_law_683, s_L_law_684, s_L_law_687, s_L_law_689, s_L_law_690, s_L_law_693, s_L_law_695, s_L_law_698, s_L_law_699, s_L_law_700, s_L_law_702, s_L_law_705, s_L_law_706, s_L_law_707, s_L_law_708, s_L_law_710, s_L_law_711, s_L_law_712, s_L_law_715, s_L_law_716, s_L_law_717, not_false_eq_true, Nat.reduceLT, Nat.reduceAdd, true_and, and_true, if_true, if_false, ite_true, ite_false, xnb_0, xnb_1, xnb_b, xk_v, xk_n, nvp (show i + 1 < E.1 by omega) hL, ncl (show i + 1 < 2147483648 by omega), nI_1, nI_2, nI_3, nI_4, nI_5, r1, r2, x1, x2, ft, f3, f4, show vp_in (0 : Int32) 1 = True from nvp (i := 0) (by omega) (by omega), show (0 : Int32).toNatClampNeg = 0 from rfl, f5, lg_eq]
  · simp only [s_L_law_664, s_L_law_665, s_L_law_666, s_L_law_668, s_L_law_669, s_L_law_670, s_L_law_671, s_L_law_672, s_L_law_675, s_L_law_677, s_L_law_678, s_L_law_679, s_L_law_681, s_L_law_682, s_L_law_683, s_L_law_684, s_L_law_687, s_L_law_689, s_L_law_690, s_L_law_693, s_L_law_695, s_L_law_698, s_L_law_699, s_L_law_700, s_L_law_702, s_L_law_705, s_L_law_706, s_L_law_707, s_L_law_708, s_L_law_710, s_L_law_711, s_L_law_712, s_L_law_715, s_L_law_716, s_L_law_717, not_false_eq_true, Nat.reduceLT, Nat.reduceAdd, true_and, and_true, if_true, if_false, ite_true, ite_false, xnb_0, xnb_1, xnb_b, xk_v, xk_n, nvp (show i + 1 < E.1 by omega) hL, ncl (show i + 1 < 2147483648 by omega), nI_1, nI_2, nI_3, nI_4, nI_5, r1, r2, x1, x2, ft, eq_false p]
theorem lw_visitsTo (hi : i + 6 ≤ E.1) (hL : E.1 < 2147483648) (h : stP E (d + 160) 237 [.ref 0, .int (E.2 (i + 1)), .ref 78] 192 [.ref 63, .int (E.2 (i + 1))] n' wI X) : lwG E d n' i 720 X := by
  intro j5 j6 j7 j8
  obtain ⟨k, v, X1, X2, r1, r2, h3, h4, h5⟩ := h
  have x1 := c63_visitsTo (d := d + 159) r2
  have x2 := x63_k h3
  have ft := f_thrown (E := E) (d := d + 159) h3
  refine ⟨X2, some (.int k), some (.int v), j7, j8, fun Q => ?_, IVk_IV h3, sz_1 h5⟩
  by_cases p : k = 0
  · obtain ⟨f, f1, f2⟩ := h4 p
    have f3 := (J_l f1).1
    have f4 := (J_l f1).2
    subst p
    have f5 : f 0 = v.toInt64 := f2
    simp only [s_L_law_720, s_L_law_721, s_L_law_722, s_L_law_724, s_L_law_725, s_L_law_726, s_L_law_727, s_L_law_728, s_L_law_731, s_L_law_733, s_L_law_734, s_L_law_735, s_L_law_737, s_L_law_738, s_L_law_739, s_L_law_740, s_L_law_743, s_L_law_745, s_L_law_746, s_L_law_749, s_L_law_751, s_L_law_754, s_L_law_755, s_L_law_756, s_L_law_758, s_L_law_761, s_L_law_762, s_L_law_763, s_L_law_764, s_L_law_766, s_L_law_767, s_L_law_768, s_L_law_771, s_L_law_772, s_L_law_773, not_false_eq_true, Nat.reduceLT, Nat.reduceAdd, true_and, and_true, if_true, if_false, ite_true, ite_false, xnb_0, xnb_1, xnb_b, xk_v, xk_n, nvp (show i + 1 < E.1 by omega) hL, ncl (show i + 1 < 2147483648 by omega), nI_1, nI_2, nI_3, nI_4, nI_5, r1, r2, x1, x2, ft, f3, f4, show vp_in (0 : Int32) 1 = True from nvp (i := 0) (by omega) (by omega), show (0 : Int32).toNatClampNeg = 0 from rfl, f5, lg_eq]
  · simp only [s_L_law_720, s_L_law_721, s_L_law_722, s_L_law_724, s_L_law_725, s_L_law_726, s_L_law_727, s_L_law_728, s_L_law_731, s_L_law_733, s_L_law_734, s_L_law_735, s_L_law_737, s_L_law_738, s_L_law_739, s_L_law_740, s_L_law_743, s_L_law_745, s_L_law_746, s_L_law_749, s_L_law_751, s_L_law_754, s_L_law_755, s_L_law_756, s_L_law_758, s_L_law_761, s_L_law_762, s_L_law_763, s_L_law_764, s_L_law_766, s_L_law_767, s_L_law_768, s_L_law_771, s_L_law_772, s_L_law_773, not_false_eq_true, Nat.reduceLT, Nat.reduceAdd, true_and, and_true, if_true, if_false, ite_true, ite_false, xnb_0, xnb_1, xnb_b, xk_v, xk_n, nvp (show i + 1 < E.1 by omega) hL, ncl (show i + 1 < 2147483648 by omega), nI_1, nI_2, nI_3, nI_4, nI_5, r1, r2, x1, x2, ft, eq_false p]
theorem lw_columnOf (hi : i + 6 ≤ E.1) (hL : E.1 < 2147483648) (h : stP E (d + 160) 238 [.ref 0, .int (E.2 (i + 1)), .ref 78] 197 [.ref 63, .int (E.2 (i + 1))] n' wI X) : lwG E d n' i 815 X := by
  intro j5 j6 j7 j8
  obtain ⟨k, v, X1, X2, r1, r2, h3, h4, h5⟩ := h
  have x1 := c63_columnOf (d := d + 159) r2
  have x2 := x63_k h3
  have ft := f_thrown (E := E) (d := d + 159) h3
  refine ⟨X2, some (.int k), some (.int v), j7, j8, fun Q => ?_, IVk_IV h3, sz_1 h5⟩
  by_cases p : k = 0
  · obtain ⟨f, f1, f2⟩ := h4 p
    have f3 := (J_l f1).1
    have f4 := (J_l f1).2
    subst p
    have f5 : f 0 = v.toInt64 := f2
    simp only [s_L_law_815, s_L_law_816, s_L_law_817, s_L_law_819, s_L_law_820, s_L_law_821, s_L_law_822, s_L_law_823, s_L_law_826, s_L_law_828, s_L_law_829, s_L_law_830, s_L_law_832, s_L_law_833, s_L_law_834, s_L_law_835, s_L_law_838, s_L_law_840, s_L_law_841, s_L_law_844, s_L_law_846, s_L_law_849, s_L_law_850, s_L_law_851, s_L_law_853, s_L_law_856, s_L_law_857, s_L_law_858, s_L_law_859, s_L_law_861, s_L_law_862, s_L_law_863, s_L_law_866, s_L_law_867, s_L_law_868, not_false_eq_true, Nat.reduceLT, Nat.reduceAdd, true_and, and_true, if_true, if_false, ite_true, ite_false, xnb_0, xnb_1, xnb_b, xk_v, xk_n, nvp (show i + 1 < E.1 by omega) hL, ncl (show i + 1 < 2147483648 by omega), nI_1, nI_2, nI_3, nI_4, nI_5, r1, r2, x1, x2, ft, f3, f4, show vp_in (0 : Int32) 1 = True from nvp (i := 0) (by omega) (by omega), show (0 : Int32).toNatClampNeg = 0 from rfl, f5, lg_eq]
  · simp only [s_L_law_815, s_L_law_816, s_L_law_817, s_L_law_819, s_L_law_820, s_L_law_821, s_L_law_822, s_L_law_823, s_L_law_826, s_L_law_828, s_L_law_829, s_L_law_830, s_L_law_832, s_L_law_833, s_L_law_834, s_L_law_835, s_L_law_838, s_L_law_840, s_L_law_841, s_L_law_844, s_L_law_846, s_L_law_849, s_L_law_850, s_L_law_851, s_L_law_853, s_L_law_856, s_L_law_857, s_L_law_858, s_L_law_859, s_L_law_861, s_L_law_862, s_L_law_863, s_L_law_866, s_L_law_867, s_L_law_868, not_false_eq_true, Nat.reduceLT, Nat.reduceAdd, true_and, and_true, if_true, if_false, ite_true, ite_false, xnb_0, xnb_1, xnb_b, xk_v, xk_n, nvp (show i + 1 < E.1 by omega) hL, ncl (show i + 1 < 2147483648 by omega), nI_1, nI_2, nI_3, nI_4, nI_5, r1, r2, x1, x2, ft, eq_false p]
theorem lw_rowOf (hi : i + 6 ≤ E.1) (hL : E.1 < 2147483648) (h : stP E (d + 160) 239 [.ref 0, .int (E.2 (i + 1)), .ref 78] 198 [.ref 63, .int (E.2 (i + 1))] n' wI X) : lwG E d n' i 871 X := by
  intro j5 j6 j7 j8
  obtain ⟨k, v, X1, X2, r1, r2, h3, h4, h5⟩ := h
  have x1 := c63_rowOf (d := d + 159) r2
  have x2 := x63_k h3
  have ft := f_thrown (E := E) (d := d + 159) h3
  refine ⟨X2, some (.int k), some (.int v), j7, j8, fun Q => ?_, IVk_IV h3, sz_1 h5⟩
  by_cases p : k = 0
  · obtain ⟨f, f1, f2⟩ := h4 p
    have f3 := (J_l f1).1
    have f4 := (J_l f1).2
    subst p
    have f5 : f 0 = v.toInt64 := f2
    simp only [s_L_law_871, s_L_law_872, s_L_law_873, s_L_law_875, s_L_law_876, s_L_law_877, s_L_law_878, s_L_law_879, s_L_law_882, s_L_law_884, s_L_law_885, s_L_law_886, s_L_law_888, s_L_law_889, s_L_law_890, s_L_law_891, s_L_law_894, s_L_law_896, s_L_law_897, s_L_law_900, s_L_law_902, s_L_law_905, s_L_law_906, s_L_law_907, s_L_law_909, s_L_law_912, s_L_law_913, s_L_law_914, s_L_law_915, s_L_law_917, s_L_law_918, s_L_law_919, s_L_law_922, s_L_law_923, s_L_law_924, not_false_eq_true, Nat.reduceLT, Nat.reduceAdd, true_and, and_true, if_true, if_false, ite_true, ite_false, xnb_0, xnb_1, xnb_b, xk_v, xk_n, nvp (show i + 1 < E.1 by omega) hL, ncl (show i + 1 < 2147483648 by omega), nI_1, nI_2, nI_3, nI_4, nI_5, r1, r2, x1, x2, ft, f3, f4, show vp_in (0 : Int32) 1 = True from nvp (i := 0) (by omega) (by omega), show (0 : Int32).toNatClampNeg = 0 from rfl, f5, lg_eq]
  · simp only [s_L_law_871, s_L_law_872, s_L_law_873, s_L_law_875, s_L_law_876, s_L_law_877, s_L_law_878, s_L_law_879, s_L_law_882, s_L_law_884, s_L_law_885, s_L_law_886, s_L_law_888, s_L_law_889, s_L_law_890, s_L_law_891, s_L_law_894, s_L_law_896, s_L_law_897, s_L_law_900, s_L_law_902, s_L_law_905, s_L_law_906, s_L_law_907, s_L_law_909, s_L_law_912, s_L_law_913, s_L_law_914, s_L_law_915, s_L_law_917, s_L_law_918, s_L_law_919, s_L_law_922, s_L_law_923, s_L_law_924, not_false_eq_true, Nat.reduceLT, Nat.reduceAdd, true_and, and_true, if_true, if_false, ite_true, ite_false, xnb_0, xnb_1, xnb_b, xk_v, xk_n, nvp (show i + 1 < E.1 by omega) hL, ncl (show i + 1 < 2147483648 by omega), nI_1, nI_2, nI_3, nI_4, nI_5, r1, r2, x1, x2, ft, eq_false p]
theorem lw_isHome (hi : i + 6 ≤ E.1) (hL : E.1 < 2147483648) (h : stP E (d + 160) 240 [.ref 0, .int (E.2 (i + 1)), .ref 78] 199 [.ref 63, .int (E.2 (i + 1))] n' wB X) : lwG E d n' i 927 X := by
  intro j5 j6 j7 j8
  obtain ⟨k, v, X1, X2, r1, r2, h3, h4, h5⟩ := h
  have x1 := c63_isHome (d := d + 159) r2
  have x2 := x63_k h3
  have ft := f_thrown (E := E) (d := d + 159) h3
  refine ⟨X2, some (.int k), some (.int v), j7, j8, fun Q => ?_, IVk_IV h3, sz_1 h5⟩
  by_cases p : k = 0
  · obtain ⟨f, f1, f2⟩ := h4 p
    have f3 := (J_l f1).1
    have f4 := (J_l f1).2
    subst p
    rcases f2 with ⟨g1, g2⟩ | ⟨g1, g2⟩
    · subst g1
      simp only [s_L_law_927, s_L_law_928, s_L_law_929, s_L_law_931, s_L_law_932, s_L_law_933, s_L_law_934, s_L_law_935, s_L_law_938, s_L_law_940, s_L_law_941, s_L_law_942, s_L_law_944, s_L_law_945, s_L_law_946, s_L_law_947, s_L_law_950, s_L_law_952, s_L_law_953, s_L_law_956, s_L_law_958, s_L_law_961, s_L_law_962, s_L_law_963, s_L_law_965, s_L_law_968, s_L_law_969, s_L_law_970, s_L_law_971, s_L_law_973, s_L_law_976, s_L_law_977, s_L_law_980, s_L_law_981, s_L_law_982, s_L_law_985, s_L_law_986, s_L_law_987, not_false_eq_true, Nat.reduceLT, Nat.reduceAdd, true_and, and_true, if_true, if_false, ite_true, ite_false, xnb_0, xnb_1, xnb_b, xk_v, xk_n, nvp (show i + 1 < E.1 by omega) hL, ncl (show i + 1 < 2147483648 by omega), nI_1, nI_2, nI_3, nI_4, nI_5, r1, r2, x1, x2, ft, f3, f4, show vp_in (0 : Int32) 1 = True from nvp (i := 0) (by omega) (by omega), show (0 : Int32).toNatClampNeg = 0 from rfl, g2, ne_1, lg_eq]
    · subst g1
      simp only [s_L_law_927, s_L_law_928, s_L_law_929, s_L_law_931, s_L_law_932, s_L_law_933, s_L_law_934, s_L_law_935, s_L_law_938, s_L_law_940, s_L_law_941, s_L_law_942, s_L_law_944, s_L_law_945, s_L_law_946, s_L_law_947, s_L_law_950, s_L_law_952, s_L_law_953, s_L_law_956, s_L_law_958, s_L_law_961, s_L_law_962, s_L_law_963, s_L_law_965, s_L_law_968, s_L_law_969, s_L_law_970, s_L_law_971, s_L_law_973, s_L_law_976, s_L_law_977, s_L_law_980, s_L_law_981, s_L_law_982, s_L_law_985, s_L_law_986, s_L_law_987, not_false_eq_true, Nat.reduceLT, Nat.reduceAdd, true_and, and_true, if_true, if_false, ite_true, ite_false, xnb_0, xnb_1, xnb_b, xk_v, xk_n, nvp (show i + 1 < E.1 by omega) hL, ncl (show i + 1 < 2147483648 by omega), nI_1, nI_2, nI_3, nI_4, nI_5, r1, r2, x1, x2, ft, f3, f4, show vp_in (0 : Int32) 1 = True from nvp (i := 0) (by omega) (by omega), show (0 : Int32).toNatClampNeg = 0 from rfl, g2, lg_eq]
  · simp only [s_L_law_927, s_L_law_928, s_L_law_929, s_L_law_931, s_L_law_932, s_L_law_933, s_L_law_934, s_L_law_935, s_L_law_938, s_L_law_940, s_L_law_941, s_L_law_942, s_L_law_944, s_L_law_945, s_L_law_946, s_L_law_947, s_L_law_950, s_L_law_952, s_L_law_953, s_L_law_956, s_L_law_958, s_L_law_961, s_L_law_962, s_L_law_963, s_L_law_965, s_L_law_968, s_L_law_969, s_L_law_970, s_L_law_971, s_L_law_973, s_L_law_976, s_L_law_977, s_L_law_980, s_L_law_981, s_L_law_982, s_L_law_985, s_L_law_986, s_L_law_987, not_false_eq_true, Nat.reduceLT, Nat.reduceAdd, true_and, and_true, if_true, if_false, ite_true, ite_false, xnb_0, xnb_1, xnb_b, xk_v, xk_n, nvp (show i + 1 < E.1 by omega) hL, ncl (show i + 1 < 2147483648 by omega), nI_1, nI_2, nI_3, nI_4, nI_5, r1, r2, x1, x2, ft, eq_false p]
theorem lw_leafOf (hi : i + 6 ≤ E.1) (hL : E.1 < 2147483648) (h : stP E (d + 160) 241 [.ref 0, .int (E.2 (i + 1)), .ref 78] 200 [.ref 63, .int (E.2 (i + 1))] n' wI X) : lwG E d n' i 990 X := by
  intro j5 j6 j7 j8
  obtain ⟨k, v, X1, X2, r1, r2, h3, h4, h5⟩ := h
  have x1 := c63_leafOf (d := d + 159) r2
  have x2 := x63_k h3
  have ft := f_thrown (E := E) (d := d + 159) h3
  refine ⟨X2, some (.int k), some (.int v), j7, j8, fun Q => ?_, IVk_IV h3, sz_1 h5⟩
  by_cases p : k = 0
  · obtain ⟨f, f1, f2⟩ := h4 p
    have f3 := (J_l f1).1
    have f4 := (J_l f1).2
    subst p
    have f5 : f 0 = v.toInt64 := f2
    simp only [s_L_law_990, s_L_law_991, s_L_law_992, s_L_law_994, s_L_law_995, s_L_law_996, s_L_law_997, s_L_law_998, s_L_law_1001, s_L_law_1003, s_L_law_1004, s_L_law_1005, s_L_law_1007, s_L_law_1008, s_L_law_1009, s_L_law_1010, s_L_law_1013, s_L_law_1015, s_L_law_1016, s_L_law_1019, s_L_law_1021, s_L_law_1024, s_L_law_1025, s_L_law_1026, s_L_law_1028, s_L_law_1031, s_L_law_1032, s_L_law_1033, s_L_law_1034, s_L_law_1036, s_L_law_1037, s_L_law_1038, s_L_law_1041, s_L_law_1042, s_L_law_1043, not_false_eq_true, Nat.reduceLT, Nat.reduceAdd, true_and, and_true, if_true, if_false, ite_true, ite_false, xnb_0, xnb_1, xnb_b, xk_v, xk_n, nvp (show i + 1 < E.1 by omega) hL, ncl (show i + 1 < 2147483648 by omega), nI_1, nI_2, nI_3, nI_4, nI_5, r1, r2, x1, x2, ft, f3, f4, show vp_in (0 : Int32) 1 = True from nvp (i := 0) (by omega) (by omega), show (0 : Int32).toNatClampNeg = 0 from rfl, f5, lg_eq]
  · simp only [s_L_law_990, s_L_law_991, s_L_law_992, s_L_law_994, s_L_law_995, s_L_law_996, s_L_law_997, s_L_law_998, s_L_law_1001, s_L_law_1003, s_L_law_1004, s_L_law_1005, s_L_law_1007, s_L_law_1008, s_L_law_1009, s_L_law_1010, s_L_law_1013, s_L_law_1015, s_L_law_1016, s_L_law_1019, s_L_law_1021, s_L_law_1024, s_L_law_1025, s_L_law_1026, s_L_law_1028, s_L_law_1031, s_L_law_1032, s_L_law_1033, s_L_law_1034, s_L_law_1036, s_L_law_1037, s_L_law_1038, s_L_law_1041, s_L_law_1042, s_L_law_1043, not_false_eq_true, Nat.reduceLT, Nat.reduceAdd, true_and, and_true, if_true, if_false, ite_true, ite_false, xnb_0, xnb_1, xnb_b, xk_v, xk_n, nvp (show i + 1 < E.1 by omega) hL, ncl (show i + 1 < 2147483648 by omega), nI_1, nI_2, nI_3, nI_4, nI_5, r1, r2, x1, x2, ft, eq_false p]
theorem lw_wayOf (hi : i + 6 ≤ E.1) (hL : E.1 < 2147483648) (h : stP E (d + 160) 242 [.ref 0, .int (E.2 (i + 1)), .ref 78] 201 [.ref 63, .int (E.2 (i + 1))] n' wI X) : lwG E d n' i 1046 X := by
  intro j5 j6 j7 j8
  obtain ⟨k, v, X1, X2, r1, r2, h3, h4, h5⟩ := h
  have x1 := c63_wayOf (d := d + 159) r2
  have x2 := x63_k h3
  have ft := f_thrown (E := E) (d := d + 159) h3
  refine ⟨X2, some (.int k), some (.int v), j7, j8, fun Q => ?_, IVk_IV h3, sz_1 h5⟩
  by_cases p : k = 0
  · obtain ⟨f, f1, f2⟩ := h4 p
    have f3 := (J_l f1).1
    have f4 := (J_l f1).2
    subst p
    have f5 : f 0 = v.toInt64 := f2
    simp only [s_L_law_1046, s_L_law_1047, s_L_law_1048, s_L_law_1050, s_L_law_1051, s_L_law_1052, s_L_law_1053, s_L_law_1054, s_L_law_1057, s_L_law_1059, s_L_law_1060, s_L_law_1061, s_L_law_1063, s_L_law_1064, s_L_law_1065, s_L_law_1066, s_L_law_1069, s_L_law_1071, s_L_law_1072, s_L_law_1075, s_L_law_1077, s_L_law_1080, s_L_law_1081, s_L_law_1082, s_L_law_1084, s_L_law_1087, s_L_law_1088, s_L_law_1089, s_L_law_1090, s_L_law_1092, s_L_law_1093, s_L_law_1094, s_L_law_1097, s_L_law_1098, s_L_law_1099, not_false_eq_true, Nat.reduceLT, Nat.reduceAdd, true_and, and_true, if_true, if_false, ite_true, ite_false, xnb_0, xnb_1, xnb_b, xk_v, xk_n, nvp (show i + 1 < E.1 by omega) hL, ncl (show i + 1 < 2147483648 by omega), nI_1, nI_2, nI_3, nI_4, nI_5, r1, r2, x1, x2, ft, f3, f4, show vp_in (0 : Int32) 1 = True from nvp (i := 0) (by omega) (by omega), show (0 : Int32).toNatClampNeg = 0 from rfl, f5, lg_eq]
  · simp only [s_L_law_1046, s_L_law_1047, s_L_law_1048, s_L_law_1050, s_L_law_1051, s_L_law_1052, s_L_law_1053, s_L_law_1054, s_L_law_1057, s_L_law_1059, s_L_law_1060, s_L_law_1061, s_L_law_1063, s_L_law_1064, s_L_law_1065, s_L_law_1066, s_L_law_1069, s_L_law_1071, s_L_law_1072, s_L_law_1075, s_L_law_1077, s_L_law_1080, s_L_law_1081, s_L_law_1082, s_L_law_1084, s_L_law_1087, s_L_law_1088, s_L_law_1089, s_L_law_1090, s_L_law_1092, s_L_law_1093, s_L_law_1094, s_L_law_1097, s_L_law_1098, s_L_law_1099, not_false_eq_true, Nat.reduceLT, Nat.reduceAdd, true_and, and_true, if_true, if_false, ite_true, ite_false, xnb_0, xnb_1, xnb_b, xk_v, xk_n, nvp (show i + 1 < E.1 by omega) hL, ncl (show i + 1 < 2147483648 by omega), nI_1, nI_2, nI_3, nI_4, nI_5, r1, r2, x1, x2, ft, eq_false p]
theorem lw_speedOf (hi : i + 6 ≤ E.1) (hL : E.1 < 2147483648) (h : stP E (d + 160) 243 [.ref 0, .int (E.2 (i + 1)), .ref 78] 202 [.ref 63, .int (E.2 (i + 1))] n' wI X) : lwG E d n' i 1102 X := by
  intro j5 j6 j7 j8
  obtain ⟨k, v, X1, X2, r1, r2, h3, h4, h5⟩ := h
  have x1 := c63_speedOf (d := d + 159) r2
  have x2 := x63_k h3
  have ft := f_thrown (E := E) (d := d + 159) h3
  refine ⟨X2, some (.int k), some (.int v), j7, j8, fun Q => ?_, IVk_IV h3, sz_1 h5⟩
  by_cases p : k = 0
  · obtain ⟨f, f1, f2⟩ := h4 p
    have f3 := (J_l f1).1
    have f4 := (J_l f1).2
    subst p
    have f5 : f 0 = v.toInt64 := f2
    simp only [s_L_law_1102, s_L_law_1103, s_L_law_1104, s_L_law_1106, s_L_law_1107, s_L_law_1108, s_L_law_1109, s_L_law_1110, s_L_law_1113, s_L_law_1115, s_L_law_1116, s_L_law_1117, s_L_law_1119, s_L_law_1120, s_L_law_1121, s_L_law_1122, s_L_law_1125, s_L_law_1127, s_L_law_1128, s_L_law_1131, s_L_law_1133, s_L_law_1136, s_L_law_1137, s_L_law_1138, s_L_law_1140, s_L_law_1143, s_L_law_1144, s_L_law_1145, s_L_law_1146, s_L_law_1148, s_L_law_1149, s_L_law_1150, s_L_law_1153, s_L_law_1154, s_L_law_1155, not_false_eq_true, Nat.reduceLT, Nat.reduceAdd, true_and, and_true, if_true, if_false, ite_true, ite_false, xnb_0, xnb_1, xnb_b, xk_v, xk_n, nvp (show i + 1 < E.1 by omega) hL, ncl (show i + 1 < 2147483648 by omega), nI_1, nI_2, nI_3, nI_4, nI_5, r1, r2, x1, x2, ft, f3, f4, show vp_in (0 : Int32) 1 = True from nvp (i := 0) (by omega) (by omega), show (0 : Int32).toNatClampNeg = 0 from rfl, f5, lg_eq]
  · simp only [s_L_law_1102, s_L_law_1103, s_L_law_1104, s_L_law_1106, s_L_law_1107, s_L_law_1108, s_L_law_1109, s_L_law_1110, s_L_law_1113, s_L_law_1115, s_L_law_1116, s_L_law_1117, s_L_law_1119, s_L_law_1120, s_L_law_1121, s_L_law_1122, s_L_law_1125, s_L_law_1127, s_L_law_1128, s_L_law_1131, s_L_law_1133, s_L_law_1136, s_L_law_1137, s_L_law_1138, s_L_law_1140, s_L_law_1143, s_L_law_1144, s_L_law_1145, s_L_law_1146, s_L_law_1148, s_L_law_1149, s_L_law_1150, s_L_law_1153, s_L_law_1154, s_L_law_1155, not_false_eq_true, Nat.reduceLT, Nat.reduceAdd, true_and, and_true, if_true, if_false, ite_true, ite_false, xnb_0, xnb_1, xnb_b, xk_v, xk_n, nvp (show i + 1 < E.1 by omega) hL, ncl (show i + 1 < 2147483648 by omega), nI_1, nI_2, nI_3, nI_4, nI_5, r1, r2, x1, x2, ft, eq_false p]
theorem lw_pointsOf (hi : i + 6 ≤ E.1) (hL : E.1 < 2147483648) (h : stP E (d + 160) 244 [.ref 0, .int (E.2 (i + 1)), .ref 78] 203 [.ref 63, .int (E.2 (i + 1))] n' wI X) : lwG E d n' i 1158 X := by
  intro j5 j6 j7 j8
  obtain ⟨k, v, X1, X2, r1, r2, h3, h4, h5⟩ := h
  have x1 := c63_pointsOf (d := d + 159) r2
  have x2 := x63_k h3
  have ft := f_thrown (E := E) (d := d + 159) h3
  refine ⟨X2, some (.int k), some (.int v), j7, j8, fun Q => ?_, IVk_IV h3, sz_1 h5⟩
  by_cases p : k = 0
  · obtain ⟨f, f1, f2⟩ := h4 p
    have f3 := (J_l f1).1
    have f4 := (J_l f1).2
    subst p
    have f5 : f 0 = v.toInt64 := f2
    simp only [s_L_law_1158, s_L_law_1159, s_L_law_1160, s_L_law_1162, s_L_law_1163, s_L_law_1164, s_L_law_1165, s_L_law_1166, s_L_law_1169, s_L_law_1171, s_L_law_1172, s_L_law_1173, s_L_law_1175, s_L_law_1176, s_L_law_1177, s_L_law_1178, s_L_law_1181, s_L_law_1183, s_L_law_1184, s_L_law_1187, s_L_law_1189, s_L_law_1192, s_L_law_1193, s_L_law_1194, s_L_law_1196, s_L_law_1199, s_L_law_1200, s_L_law_1201, s_L_law_1202, s_L_law_1204, s_L_law_1205, s_L_law_1206, s_L_law_1209, s_L_law_1210, s_L_law_1211, not_false_eq_true, Nat.reduceLT, Nat.reduceAdd, true_and, and_true, if_true, if_false, ite_true, ite_false, xnb_0, xnb_1, xnb_b, xk_v, xk_n, nvp (show i + 1 < E.1 by omega) hL, ncl (show i + 1 < 2147483648 by omega), nI_1, nI_2, nI_3, nI_4, nI_5, r1, r2, x1, x2, ft, f3, f4, show vp_in (0 : Int32) 1 = True from nvp (i := 0) (by omega) (by omega), show (0 : Int32).toNatClampNeg = 0 from rfl, f5, lg_eq]
  · simp only [s_L_law_1158, s_L_law_1159, s_L_law_1160, s_L_law_1162, s_L_law_1163, s_L_law_1164, s_L_law_1165, s_L_law_1166, s_L_law_1169, s_L_law_1171, s_L_law_1172, s_L_law_1173, s_L_law_1175, s_L_law_1176, s_L_law_1177, s_L_law_1178, s_L_law_1181, s_L_law_1183, s_L_law_1184, s_L_law_1187, s_L_law_1189, s_L_law_1192, s_L_law_1193, s_L_law_1194, s_L_law_1196, s_L_law_1199, s_L_law_1200, s_L_law_1201, s_L_law_1202, s_L_law_1204, s_L_law_1205, s_L_law_1206, s_L_law_1209, s_L_law_1210, s_L_law_1211, not_false_eq_true, Nat.reduceLT, Nat.reduceAdd, true_and, and_true, if_true, if_false, ite_true, ite_false, xnb_0, xnb_1, xnb_b, xk_v, xk_n, nvp (show i + 1 < E.1 by omega) hL, ncl (show i + 1 < 2147483648 by omega), nI_1, nI_2, nI_3, nI_4, nI_5, r1, r2, x1, x2, ft, eq_false p]
theorem lw_sipsOf (hi : i + 6 ≤ E.1) (hL : E.1 < 2147483648) (h : stP E (d + 160) 245 [.ref 0, .int (E.2 (i + 1)), .ref 78] 204 [.ref 63, .int (E.2 (i + 1))] n' wI X) : lwG E d n' i 1214 X := by
  intro j5 j6 j7 j8
  obtain ⟨k, v, X1, X2, r1, r2, h3, h4, h5⟩ := h
  have x1 := c63_sipsOf (d := d + 159) r2
  have x2 := x63_k h3
  have ft := f_thrown (E := E) (d := d + 159) h3
  refine ⟨X2, some (.int k), some (.int v), j7, j8, fun Q => ?_, IVk_IV h3, sz_1 h5⟩
  by_cases p : k = 0
  · obtain ⟨f, f1, f2⟩ := h4 p
    have f3 := (J_l f1).1
    have f4 := (J_l f1).2
    subst p
    have f5 : f 0 = v.toInt64 := f2
    simp only [s_L_law_1214, s_L_law_1215, s_L_law_1216, s_L_law_1218, s_L_law_1219, s_L_law_1220, s_L_law_1221, s_L_law_1222, s_L_law_1225, s_L_law_1227, s_L_law_1228, s_L_law_1229, s_L_law_1231, s_L_law_1232, s_L_law_1233, s_L_law_1234, s_L_law_1237, s_L_law_1239, s_L_law_1240, s_L_law_1243, s_L_law_1245, s_L_law_1248, s_L_law_1249, s_L_law_1250, s_L_law_1252, s_L_law_1255, s_L_law_1256, s_L_law_1257, s_L_law_1258, s_L_law_1260, s_L_law_1261, s_L_law_1262, s_L_law_1265, s_L_law_1266, s_L_law_1267, not_false_eq_true, Nat.reduceLT, Nat.reduceAdd, true_and, and_true, if_true, if_false, ite_true, ite_false, xnb_0, xnb_1, xnb_b, xk_v, xk_n, nvp (show i + 1 < E.1 by omega) hL, ncl (show i + 1 < 2147483648 by omega), nI_1, nI_2, nI_3, nI_4, nI_5, r1, r2, x1, x2, ft, f3, f4, show vp_in (0 : Int32) 1 = True from nvp (i := 0) (by omega) (by omega), show (0 : Int32).toNatClampNeg = 0 from rfl, f5, lg_eq]
  · simp only [s_L_law_1214, s_L_law_1215, s_L_law_1216, s_L_law_1218, s_L_law_1219, s_L_law_1220, s_L_law_1221, s_L_law_1222, s_L_law_1225, s_L_law_1227, s_L_law_1228, s_L_law_1229, s_L_law_1231, s_L_law_1232, s_L_law_1233, s_L_law_1234, s_L_law_1237, s_L_law_1239, s_L_law_1240, s_L_law_1243, s_L_law_1245, s_L_law_1248, s_L_law_1249, s_L_law_1250, s_L_law_1252, s_L_law_1255, s_L_law_1256, s_L_law_1257, s_L_law_1258, s_L_law_1260, s_L_law_1261, s_L_law_1262, s_L_law_1265, s_L_law_1266, s_L_law_1267, not_false_eq_true, Nat.reduceLT, Nat.reduceAdd, true_and, and_true, if_true, if_false, ite_true, ite_false, xnb_0, xnb_1, xnb_b, xk_v, xk_n, nvp (show i + 1 < E.1 by omega) hL, ncl (show i + 1 < 2147483648 by omega), nI_1, nI_2, nI_3, nI_4, nI_5, r1, r2, x1, x2, ft, eq_false p]
theorem lw_smells (hi : i + 6 ≤ E.1) (hL : E.1 < 2147483648) (h : stP E (d + 160) 246 [.ref 0, .int (E.2 (i + 1)), .int (E.2 (i + 2)), .ref 78] 205 [.ref 63, .int (E.2 (i + 1)), .int (E.2 (i + 2))] n' wI X) : lwG E d n' i 1270 X := by
  intro j5 j6 j7 j8
  obtain ⟨k, v, X1, X2, r1, r2, h3, h4, h5⟩ := h
  have x1 := c63_smells (d := d + 159) r2
  have x2 := x63_k h3
  have ft := f_thrown (E := E) (d := d + 159) h3
  refine ⟨X2, some (.int k), some (.int v), j7, j8, fun Q => ?_, IVk_IV h3, sz_1 h5⟩
  by_cases p : k = 0
  · obtain ⟨f, f1, f2⟩ := h4 p
    have f3 := (J_l f1).1
    have f4 := (J_l f1).2
    subst p
    have f5 : f 0 = v.toInt64 := f2
    simp only [s_L_law_1270, s_L_law_1271, s_L_law_1272, s_L_law_1274, s_L_law_1275, s_L_law_1276, s_L_law_1277, s_L_law_1278, s_L_law_1280, s_L_law_1281, s_L_law_1282, s_L_law_1283, s_L_law_1284, s_L_law_1287, s_L_law_1289, s_L_law_1290, s_L_law_1291, s_L_law_1293, s_L_law_1294, s_L_law_1295, s_L_law_1296, s_L_law_1297, s_L_law_1299, s_L_law_1300, s_L_law_1301, s_L_law_1302, s_L_law_1305, s_L_law_1307, s_L_law_1308, s_L_law_1311, s_L_law_1313, s_L_law_1316, s_L_law_1317, s_L_law_1318, s_L_law_1320, s_L_law_1323, s_L_law_1324, s_L_law_1325, s_L_law_1326, s_L_law_1328, s_L_law_1329, s_L_law_1330, s_L_law_1333, s_L_law_1334, s_L_law_1335, not_false_eq_true, Nat.reduceLT, Nat.reduceAdd, true_and, and_true, if_true, if_false, ite_true, ite_false, xnb_0, xnb_1, xnb_b, xk_v, xk_n, nvp (show i + 1 < E.1 by omega) hL, ncl (show i + 1 < 2147483648 by omega), nvp (show i + 2 < E.1 by omega) hL, ncl (show i + 2 < 2147483648 by omega), nI_1, nI_2, nI_3, nI_4, nI_5, r1, r2, x1, x2, ft, f3, f4, show vp_in (0 : Int32) 1 = True from nvp (i := 0) (by omega) (by omega), show (0 : Int32).toNatClampNeg = 0 from rfl, f5, lg_eq]
  · simp only [s_L_law_1270, s_L_law_1271, s_L_law_1272, s_L_law_1274, s_L_law_1275, s_L_law_1276, s_L_law_1277, s_L_law_1278, s_L_law_1280, s_L_law_1281, s_L_law_1282, s_L_law_1283, s_L_law_1284, s_L_law_1287, s_L_law_1289, s_L_law_1290, s_L_law_1291, s_L_law_1293, s_L_law_1294, s_L_law_1295, s_L_law_1296, s_L_law_1297, s_L_law_1299, s_L_law_1300, s_L_law_1301, s_L_law_1302, s_L_law_1305, s_L_law_1307, s_L_law_1308, s_L_law_1311, s_L_law_1313, s_L_law_1316, s_L_law_1317, s_L_law_1318, s_L_law_1320, s_L_law_1323, s_L_law_1324, s_L_law_1325, s_L_law_1326, s_L_law_1328, s_L_law_1329, s_L_law_1330, s_L_law_1333, s_L_law_1334, s_L_law_1335, not_false_eq_true, Nat.reduceLT, Nat.reduceAdd, true_and, and_true, if_true, if_false, ite_true, ite_false, xnb_0, xnb_1, xnb_b, xk_v, xk_n, nvp (show i + 1 < E.1 by omega) hL, ncl (show i + 1 < 2147483648 by omega), nvp (show i + 2 < E.1 by omega) hL, ncl (show i + 2 < 2147483648 by omega), nI_1, nI_2, nI_3, nI_4, nI_5, r1, r2, x1, x2, ft, eq_false p]
theorem lw_ruleTells (hi : i + 6 ≤ E.1) (hL : E.1 < 2147483648) (h : stP E (d + 160) 247 [.ref 0, .int (E.2 (i + 1)), .ref 78] 206 [.ref 63, .int (E.2 (i + 1))] n' wI X) : lwG E d n' i 1338 X := by
  intro j5 j6 j7 j8
  obtain ⟨k, v, X1, X2, r1, r2, h3, h4, h5⟩ := h
  have x1 := c63_ruleTells (d := d + 159) r2
  have x2 := x63_k h3
  have ft := f_thrown (E := E) (d := d + 159) h3
  refine ⟨X2, some (.int k), some (.int v), j7, j8, fun Q => ?_, IVk_IV h3, sz_1 h5⟩
  by_cases p : k = 0
  · obtain ⟨f, f1, f2⟩ := h4 p
    have f3 := (J_l f1).1
    have f4 := (J_l f1).2
    subst p
    have f5 : f 0 = v.toInt64 := f2
    simp only [s_L_law_1338, s_L_law_1339, s_L_law_1340, s_L_law_1342, s_L_law_1343, s_L_law_1344, s_L_law_1345, s_L_law_1346, s_L_law_1349, s_L_law_1351, s_L_law_1352, s_L_law_1353, s_L_law_1355, s_L_law_1356, s_L_law_1357, s_L_law_1358, s_L_law_1361, s_L_law_1363, s_L_law_1364, s_L_law_1367, s_L_law_1369, s_L_law_1372, s_L_law_1373, s_L_law_1374, s_L_law_1376, s_L_law_1379, s_L_law_1380, s_L_law_1381, s_L_law_1382, s_L_law_1384, s_L_law_1385, s_L_law_1386, s_L_law_1389, s_L_law_1390, s_L_law_1391, not_false_eq_true, Nat.reduceLT, Nat.reduceAdd, true_and, and_true, if_true, if_false, ite_true, ite_false, xnb_0, xnb_1, xnb_b, xk_v, xk_n, nvp (show i + 1 < E.1 by omega) hL, ncl (show i + 1 < 2147483648 by omega), nI_1, nI_2, nI_3, nI_4, nI_5, r1, r2, x1, x2, ft, f3, f4, show vp_in (0 : Int32) 1 = True from nvp (i := 0) (by omega) (by omega), show (0 : Int32).toNatClampNeg = 0 from rfl, f5, lg_eq]
  · simp only [s_L_law_1338, s_L_law_1339, s_L_law_1340, s_L_law_1342, s_L_law_1343, s_L_law_1344, s_L_law_1345, s_L_law_1346, s_L_law_1349, s_L_law_1351, s_L_law_1352, s_L_law_1353, s_L_law_1355, s_L_law_1356, s_L_law_1357, s_L_law_1358, s_L_law_1361, s_L_law_1363, s_L_law_1364, s_L_law_1367, s_L_law_1369, s_L_law_1372, s_L_law_1373, s_L_law_1374, s_L_law_1376, s_L_law_1379, s_L_law_1380, s_L_law_1381, s_L_law_1382, s_L_law_1384, s_L_law_1385, s_L_law_1386, s_L_law_1389, s_L_law_1390, s_L_law_1391, not_false_eq_true, Nat.reduceLT, Nat.reduceAdd, true_and, and_true, if_true, if_false, ite_true, ite_false, xnb_0, xnb_1, xnb_b, xk_v, xk_n, nvp (show i + 1 < E.1 by omega) hL, ncl (show i + 1 < 2147483648 by omega), nI_1, nI_2, nI_3, nI_4, nI_5, r1, r2, x1, x2, ft, eq_false p]
theorem lw_wouldStay (hi : i + 6 ≤ E.1) (hL : E.1 < 2147483648) (h : stP E (d + 160) 248 [.ref 0, .int (E.2 (i + 1)), .ref 78] 207 [.ref 63, .int (E.2 (i + 1))] n' wB X) : lwG E d n' i 1394 X := by
  intro j5 j6 j7 j8
  obtain ⟨k, v, X1, X2, r1, r2, h3, h4, h5⟩ := h
  have x1 := c63_wouldStay (d := d + 159) r2
  have x2 := x63_k h3
  have ft := f_thrown (E := E) (d := d + 159) h3
  refine ⟨X2, some (.int k), some (.int v), j7, j8, fun Q => ?_, IVk_IV h3, sz_1 h5⟩
  by_cases p : k = 0
  · obtain ⟨f, f1, f2⟩ := h4 p
    have f3 := (J_l f1).1
    have f4 := (J_l f1).2
    subst p
    rcases f2 with ⟨g1, g2⟩ | ⟨g1, g2⟩
    · subst g1
      simp only [s_L_law_1394, s_L_law_1395, s_L_law_1396, s_L_law_1398, s_L_law_1399, s_L_law_1400, s_L_law_1401, s_L_law_1402, s_L_law_1405, s_L_law_1407, s_L_law_1408, s_L_law_1409, s_L_law_1411, s_L_law_1412, s_L_law_1413, s_L_law_1414, s_L_law_1417, s_L_law_1419, s_L_law_1420, s_L_law_1423, s_L_law_1425, s_L_law_1428, s_L_law_1429, s_L_law_1430, s_L_law_1432, s_L_law_1435, s_L_law_1436, s_L_law_1437, s_L_law_1438, s_L_law_1440, s_L_law_1443, s_L_law_1444, s_L_law_1447, s_L_law_1448, s_L_law_1449, s_L_law_1452, s_L_law_1453, s_L_law_1454, not_false_eq_true, Nat.reduceLT, Nat.reduceAdd, true_and, and_true, if_true, if_false, ite_true, ite_false, xnb_0, xnb_1, xnb_b, xk_v, xk_n, nvp (show i + 1 < E.1 by omega) hL, ncl (show i + 1 < 2147483648 by omega), nI_1, nI_2, nI_3, nI_4, nI_5, r1, r2, x1, x2, ft, f3, f4, show vp_in (0 : Int32) 1 = True from nvp (i := 0) (by omega) (by omega), show (0 : Int32).toNatClampNeg = 0 from rfl, g2, ne_1, lg_eq]
    · subst g1
      simp only [s_L_law_1394, s_L_law_1395, s_L_law_1396, s_L_law_1398, s_L_law_1399, s_L_law_1400, s_L_law_1401, s_L_law_1402, s_L_law_1405, s_L_law_1407, s_L_law_1408, s_L_law_1409, s_L_law_1411, s_L_law_1412, s_L_law_1413, s_L_law_1414, s_L_law_1417, s_L_law_1419, s_L_law_1420, s_L_law_1423, s_L_law_1425, s_L_law_1428, s_L_law_1429, s_L_law_1430, s_L_law_1432, s_L_law_1435, s_L_law_1436, s_L_law_1437, s_L_law_1438, s_L_law_1440, s_L_law_1443, s_L_law_1444, s_L_law_1447, s_L_law_1448, s_L_law_1449, s_L_law_1452, s_L_law_1453, s_L_law_1454, not_false_eq_true, Nat.reduceLT, Nat.reduceAdd, true_and, and_true, if_true, if_false, ite_true, ite_false, xnb_0, xnb_1, xnb_b, xk_v, xk_n, nvp (show i + 1 < E.1 by omega) hL, ncl (show i + 1 < 2147483648 by omega), nI_1, nI_2, nI_3, nI_4, nI_5, r1, r2, x1, x2, ft, f3, f4, show vp_in (0 : Int32) 1 = True from nvp (i := 0) (by omega) (by omega), show (0 : Int32).toNatClampNeg = 0 from rfl, g2, lg_eq]
  · simp only [s_L_law_1394, s_L_law_1395, s_L_law_1396, s_L_law_1398, s_L_law_1399, s_L_law_1400, s_L_law_1401, s_L_law_1402, s_L_law_1405, s_L_law_1407, s_L_law_1408, s_L_law_1409, s_L_law_1411, s_L_law_1412, s_L_law_1413, s_L_law_1414, s_L_law_1417, s_L_law_1419, s_L_law_1420, s_L_law_1423, s_L_law_1425, s_L_law_1428, s_L_law_1429, s_L_law_1430, s_L_law_1432, s_L_law_1435, s_L_law_1436, s_L_law_1437, s_L_law_1438, s_L_law_1440, s_L_law_1443, s_L_law_1444, s_L_law_1447, s_L_law_1448, s_L_law_1449, s_L_law_1452, s_L_law_1453, s_L_law_1454, not_false_eq_true, Nat.reduceLT, Nat.reduceAdd, true_and, and_true, if_true, if_false, ite_true, ite_false, xnb_0, xnb_1, xnb_b, xk_v, xk_n, nvp (show i + 1 < E.1 by omega) hL, ncl (show i + 1 < 2147483648 by omega), nI_1, nI_2, nI_3, nI_4, nI_5, r1, r2, x1, x2, ft, eq_false p]
theorem lw_steersTo (hi : i + 6 ≤ E.1) (hL : E.1 < 2147483648) (h : stP E (d + 160) 249 [.ref 0, .int (E.2 (i + 1)), .ref 78] 208 [.ref 63, .int (E.2 (i + 1))] n' wI X) : lwG E d n' i 1457 X := by
  intro j5 j6 j7 j8
  obtain ⟨k, v, X1, X2, r1, r2, h3, h4, h5⟩ := h
  have x1 := c63_steersTo (d := d + 159) r2
  have x2 := x63_k h3
  have ft := f_thrown (E := E) (d := d + 159) h3
  refine ⟨X2, some (.int k), some (.int v), j7, j8, fun Q => ?_, IVk_IV h3, sz_1 h5⟩
  by_cases p : k = 0
  · obtain ⟨f, f1, f2⟩ := h4 p
    have f3 := (J_l f1).1
    have f4 := (J_l f1).2
    subst p
    have f5 : f 0 = v.toInt64 := f2
    simp only [s_L_law_1457, s_L_law_1458, s_L_law_1459, s_L_law_1461, s_L_law_1462, s_L_law_1463, s_L_law_1464, s_L_law_1465, s_L_law_1468, s_L_law_1470, s_L_law_1471, s_L_law_1472, s_L_law_1474, s_L_law_1475, s_L_law_1476, s_L_law_1477, s_L_law_1480, s_L_law_1482, s_L_law_1483, s_L_law_1486, s_L_law_1488, s_L_law_1491, s_L_law_1492, s_L_law_1493, s_L_law_1495, s_L_law_1498, s_L_law_1499, s_L_law_1500, s_L_law_1501, s_L_law_1503, s_L_law_1504, s_L_law_1505, s_L_law_1508, s_L_law_1509, s_L_law_1510, not_false_eq_true, Nat.reduceLT, Nat.reduceAdd, true_and, and_true, if_true, if_false, ite_true, ite_false, xnb_0, xnb_1, xnb_b, xk_v, xk_n, nvp (show i + 1 < E.1 by omega) hL, ncl (show i + 1 < 2147483648 by omega), nI_1, nI_2, nI_3, nI_4, nI_5, r1, r2, x1, x2, ft, f3, f4, show vp_in (0 : Int32) 1 = True from nvp (i := 0) (by omega) (by omega), show (0 : Int32).toNatClampNeg = 0 from rfl, f5, lg_eq]
  · simp only [s_L_law_1457, s_L_law_1458, s_L_law_1459, s_L_law_1461, s_L_law_1462, s_L_law_1463, s_L_law_1464, s_L_law_1465, s_L_law_1468, s_L_law_1470, s_L_law_1471, s_L_law_1472, s_L_law_1474, s_L_law_1475, s_L_law_1476, s_L_law_1477, s_L_law_1480, s_L_law_1482, s_L_law_1483, s_L_law_1486, s_L_law_1488, s_L_law_1491, s_L_law_1492, s_L_law_1493, s_L_law_1495, s_L_law_1498, s_L_law_1499, s_L_law_1500, s_L_law_1501, s_L_law_1503, s_L_law_1504, s_L_law_1505, s_L_law_1508, s_L_law_1509, s_L_law_1510, not_false_eq_true, Nat.reduceLT, Nat.reduceAdd, true_and, and_true, if_true, if_false, ite_true, ite_false, xnb_0, xnb_1, xnb_b, xk_v, xk_n, nvp (show i + 1 < E.1 by omega) hL, ncl (show i + 1 < 2147483648 by omega), nI_1, nI_2, nI_3, nI_4, nI_5, r1, r2, x1, x2, ft, eq_false p]
theorem lw_leader (hi : i + 6 ≤ E.1) (hL : E.1 < 2147483648) (h : stP E (d + 160) 250 [.ref 0, .ref 78] 209 [.ref 63] n' wI X) : lwG E d n' i 1513 X := by
  intro j5 j6 j7 j8
  obtain ⟨k, v, X1, X2, r1, r2, h3, h4, h5⟩ := h
  have x1 := c63_leader (d := d + 159) r2
  have x2 := x63_k h3
  have ft := f_thrown (E := E) (d := d + 159) h3
  refine ⟨X2, some (.int k), some (.int v), j7, j8, fun Q => ?_, IVk_IV h3, sz_1 h5⟩
  by_cases p : k = 0
  · obtain ⟨f, f1, f2⟩ := h4 p
    have f3 := (J_l f1).1
    have f4 := (J_l f1).2
    subst p
    have f5 : f 0 = v.toInt64 := f2
    simp only [s_L_law_1513, s_L_law_1514, s_L_law_1515, s_L_law_1518, s_L_law_1520, s_L_law_1521, s_L_law_1524, s_L_law_1526, s_L_law_1527, s_L_law_1530, s_L_law_1532, s_L_law_1535, s_L_law_1536, s_L_law_1537, s_L_law_1539, s_L_law_1542, s_L_law_1543, s_L_law_1544, s_L_law_1545, s_L_law_1547, s_L_law_1548, s_L_law_1549, s_L_law_1552, s_L_law_1553, s_L_law_1554, not_false_eq_true, Nat.reduceLT, Nat.reduceAdd, true_and, and_true, if_true, if_false, ite_true, ite_false, xnb_0, xnb_1, xnb_b, xk_v, xk_n, nI_1, nI_2, nI_3, nI_4, nI_5, r1, r2, x1, x2, ft, f3, f4, show vp_in (0 : Int32) 1 = True from nvp (i := 0) (by omega) (by omega), show (0 : Int32).toNatClampNeg = 0 from rfl, f5, lg_eq]
  · simp only [s_L_law_1513, s_L_law_1514, s_L_law_1515, s_L_law_1518, s_L_law_1520, s_L_law_1521, s_L_law_1524, s_L_law_1526, s_L_law_1527, s_L_law_1530, s_L_law_1532, s_L_law_1535, s_L_law_1536, s_L_law_1537, s_L_law_1539, s_L_law_1542, s_L_law_1543, s_L_law_1544, s_L_law_1545, s_L_law_1547, s_L_law_1548, s_L_law_1549, s_L_law_1552, s_L_law_1553, s_L_law_1554, not_false_eq_true, Nat.reduceLT, Nat.reduceAdd, true_and, and_true, if_true, if_false, ite_true, ite_false, xnb_0, xnb_1, xnb_b, xk_v, xk_n, nI_1, nI_2, nI_3, nI_4, nI_5, r1, r2, x1, x2, ft, eq_false p]
theorem lw_setWind (hi : i + 6 ≤ E.1) (hL : E.1 < 2147483648) (h : stP E (d + 160) 251 [.ref 0, .int (E.2 (i + 1)), .int (E.2 (i + 2)), .ref 78] 210 [.ref 63, .int (E.2 (i + 1)), .int (E.2 (i + 2))] n' wI X) : lwG E d n' i 1557 X := by
  intro j5 j6 j7 j8
  obtain ⟨k, v, X1, X2, r1, r2, h3, h4, h5⟩ := h
  have x1 := c63_setWind (d := d + 159) r2
  have x2 := x63_k h3
  have ft := f_thrown (E := E) (d := d + 159) h3
  refine ⟨X2, some (.int k), some (.int v), j7, j8, fun Q => ?_, IVk_IV h3, sz_1 h5⟩
  by_cases p : k = 0
  · obtain ⟨f, f1, f2⟩ := h4 p
    have f3 := (J_l f1).1
    have f4 := (J_l f1).2
    subst p
    have f5 : f 0 = v.toInt64 := f2
    simp only [s_L_law_1557, s_L_law_1558, s_L_law_1559, s_L_law_1561, s_L_law_1562, s_L_law_1563, s_L_law_1564, s_L_law_1565, s_L_law_1567, s_L_law_1568, s_L_law_1569, s_L_law_1570, s_L_law_1571, s_L_law_1574, s_L_law_1576, s_L_law_1577, s_L_law_1578, s_L_law_1580, s_L_law_1581, s_L_law_1582, s_L_law_1583, s_L_law_1584, s_L_law_1586, s_L_law_1587, s_L_law_1588, s_L_law_1589, s_L_law_1592, s_L_law_1594, s_L_law_1595, s_L_law_1598, s_L_law_1600, s_L_law_1603, s_L_law_1604, s_L_law_1605, s_L_law_1607, s_L_law_1610, s_L_law_1611, s_L_law_1612, s_L_law_1613, s_L_law_1615, s_L_law_1616, s_L_law_1617, s_L_law_1620, s_L_law_1621, s_L_law_1622, not_false_eq_true, Nat.reduceLT, Nat.reduceAdd, true_and, and_true, if_true, if_false, ite_true, ite_false, xnb_0, xnb_1, xnb_b, xk_v, xk_n, nvp (show i + 1 < E.1 by omega) hL, ncl (show i + 1 < 2147483648 by omega), nvp (show i + 2 < E.1 by omega) hL, ncl (show i + 2 < 2147483648 by omega), nI_1, nI_2, nI_3, nI_4, nI_5, r1, r2, x1, x2, ft, f3, f4, show vp_in (0 : Int32) 1 = True from nvp (i := 0) (by omega) (by omega), show (0 : Int32).toNatClampNeg = 0 from rfl, f5, lg_eq]
  · simp only [s_L_law_1557, s_L_law_1558, s_L_law_1559, s_L_law_1561, s_L_law_1562, s_L_law_1563, s_L_law_1564, s_L_law_1565, s_L_law_1567, s_L_law_1568, s_L_law_1569, s_L_law_1570, s_L_law_1571, s_L_law_1574, s_L_law_1576, s_L_law_1577, s_L_law_1578, s_L_law_1580, s_L_law_1581, s_L_law_1582, s_L_law_1583, s_L_law_1584, s_L_law_1586, s_L_law_1587, s_L_law_1588, s_L_law_1589, s_L_law_1592, s_L_law_1594, s_L_law_1595, s_L_law_1598, s_L_law_1600, s_L_law_1603, s_L_law_1604, s_L_law_1605, s_L_law_1607, s_L_law_1610, s_L_law_1611, s_L_law_1612, s_L_law_1613, s_L_law_1615, s_L_law_1616, s_L_law_1617, s_L_law_1620, s_L_law_1621, s_L_law_1622, not_false_eq_true, Nat.reduceLT, Nat.reduceAdd, true_and, and_true, if_true, if_false, ite_true, ite_false, xnb_0, xnb_1, xnb_b, xk_v, xk_n, nvp (show i + 1 < E.1 by omega) hL, ncl (show i + 1 < 2147483648 by omega), nvp (show i + 2 < E.1 by omega) hL, ncl (show i + 2 < 2147483648 by omega), nI_1, nI_2, nI_3, nI_4, nI_5, r1, r2, x1, x2, ft, eq_false p]
theorem lw_jettison (hi : i + 6 ≤ E.1) (hL : E.1 < 2147483648) (h : stP E (d + 160) 252 [.ref 0, .int (E.2 (i + 1)), .int (E.2 (i + 2)), .ref 78] 211 [.ref 63, .int (E.2 (i + 1)), .int (E.2 (i + 2))] n' wI X) : lwG E d n' i 1625 X := by
  intro j5 j6 j7 j8
  obtain ⟨k, v, X1, X2, r1, r2, h3, h4, h5⟩ := h
  have x1 := c63_jettison (d := d + 159) r2
  have x2 := x63_k h3
  have ft := f_thrown (E := E) (d := d + 159) h3
  refine ⟨X2, some (.int k), some (.int v), j7, j8, fun Q => ?_, IVk_IV h3, sz_1 h5⟩
  by_cases p : k = 0
  · obtain ⟨f, f1, f2⟩ := h4 p
    have f3 := (J_l f1).1
    have f4 := (J_l f1).2
    subst p
    have f5 : f 0 = v.toInt64 := f2
    simp only [s_L_law_1625, s_L_law_1626, s_L_law_1627, s_L_law_1629, s_L_law_1630, s_L_law_1631, s_L_law_1632, s_L_law_1633, s_L_law_1635, s_L_law_1636, s_L_law_1637, s_L_law_1638, s_L_law_1639, s_L_law_1642, s_L_law_1644, s_L_law_1645, s_L_law_1646, s_L_law_1648, s_L_law_1649, s_L_law_1650, s_L_law_1651, s_L_law_1652, s_L_law_1654, s_L_law_1655, s_L_law_1656, s_L_law_1657, s_L_law_1660, s_L_law_1662, s_L_law_1663, s_L_law_1666, s_L_law_1668, s_L_law_1671, s_L_law_1672, s_L_law_1673, s_L_law_1675, s_L_law_1678, s_L_law_1679, s_L_law_1680, s_L_law_1681, s_L_law_1683, s_L_law_1684, s_L_law_1685, s_L_law_1688, s_L_law_1689, s_L_law_1690, not_false_eq_true, Nat.reduceLT, Nat.reduceAdd, true_and, and_true, if_true, if_false, ite_true, ite_false, xnb_0, xnb_1, xnb_b, xk_v, xk_n, nvp (show i + 1 < E.1 by omega) hL, ncl (show i + 1 < 2147483648 by omega), nvp (show i + 2 < E.1 by omega) hL, ncl (show i + 2 < 2147483648 by omega), nI_1, nI_2, nI_3, nI_4, nI_5, r1, r2, x1, x2, ft, f3, f4, show vp_in (0 : Int32) 1 = True from nvp (i := 0) (by omega) (by omega), show (0 : Int32).toNatClampNeg = 0 from rfl, f5, lg_eq]
  · simp only [s_L_law_1625, s_L_law_1626, s_L_law_1627, s_L_law_1629, s_L_law_1630, s_L_law_1631, s_L_law_1632, s_L_law_1633, s_L_law_1635, s_L_law_1636, s_L_law_1637, s_L_law_1638, s_L_law_1639, s_L_law_1642, s_L_law_1644, s_L_law_1645, s_L_law_1646, s_L_law_1648, s_L_law_1649, s_L_law_1650, s_L_law_1651, s_L_law_1652, s_L_law_1654, s_L_law_1655, s_L_law_1656, s_L_law_1657, s_L_law_1660, s_L_law_1662, s_L_law_1663, s_L_law_1666, s_L_law_1668, s_L_law_1671, s_L_law_1672, s_L_law_1673, s_L_law_1675, s_L_law_1678, s_L_law_1679, s_L_law_1680, s_L_law_1681, s_L_law_1683, s_L_law_1684, s_L_law_1685, s_L_law_1688, s_L_law_1689, s_L_law_1690, not_false_eq_true, Nat.reduceLT, Nat.reduceAdd, true_and, and_true, if_true, if_false, ite_true, ite_false, xnb_0, xnb_1, xnb_b, xk_v, xk_n, nvp (show i + 1 < E.1 by omega) hL, ncl (show i + 1 < 2147483648 by omega), nvp (show i + 2 < E.1 by omega) hL, ncl (show i + 2 < 2147483648 by omega), nI_1, nI_2, nI_3, nI_4, nI_5, r1, r2, x1, x2, ft, eq_false p]
theorem lw_calmKettle (hi : i + 6 ≤ E.1) (hL : E.1 < 2147483648) (h : stP E (d + 160) 253 [.ref 0, .int (E.2 (i + 1)), .int (E.2 (i + 2)), .ref 78] 212 [.ref 63, .int (E.2 (i + 1)), .int (E.2 (i + 2))] n' wI X) : lwG E d n' i 1693 X := by
  intro j5 j6 j7 j8
  obtain ⟨k, v, X1, X2, r1, r2, h3, h4, h5⟩ := h
  have x1 := c63_calmKettle (d := d + 159) r2
  have x2 := x63_k h3
  have ft := f_thrown (E := E) (d := d + 159) h3
  refine ⟨X2, some (.int k), some (.int v), j7, j8, fun Q => ?_, IVk_IV h3, sz_1 h5⟩
  by_cases p : k = 0
  · obtain ⟨f, f1, f2⟩ := h4 p
    have f3 := (J_l f1).1
    have f4 := (J_l f1).2
    subst p
    have f5 : f 0 = v.toInt64 := f2
    simp only [s_L_law_1693, s_L_law_1694, s_L_law_1695, s_L_law_1697, s_L_law_1698, s_L_law_1699, s_L_law_1700, s_L_law_1701, s_L_law_1703, s_L_law_1704, s_L_law_1705, s_L_law_1706, s_L_law_1707, s_L_law_1710, s_L_law_1712, s_L_law_1713, s_L_law_1714, s_L_law_1716, s_L_law_1717, s_L_law_1718, s_L_law_1719, s_L_law_1720, s_L_law_1722, s_L_law_1723, s_L_law_1724, s_L_law_1725, s_L_law_1728, s_L_law_1730, s_L_law_1731, s_L_law_1734, s_L_law_1736, s_L_law_1739, s_L_law_1740, s_L_law_1741, s_L_law_1743, s_L_law_1746, s_L_law_1747, s_L_law_1748, s_L_law_1749, s_L_law_1751, s_L_law_1752, s_L_law_1753, s_L_law_1756, s_L_law_1757, s_L_law_1758, not_false_eq_true, Nat.reduceLT, Nat.reduceAdd, true_and, and_true, if_true, if_false, ite_true, ite_false, xnb_0, xnb_1, xnb_b, xk_v, xk_n, nvp (show i + 1 < E.1 by omega) hL, ncl (show i + 1 < 2147483648 by omega), nvp (show i + 2 < E.1 by omega) hL, ncl (show i + 2 < 2147483648 by omega), nI_1, nI_2, nI_3, nI_4, nI_5, r1, r2, x1, x2, ft, f3, f4, show vp_in (0 : Int32) 1 = True from nvp (i := 0) (by omega) (by omega), show (0 : Int32).toNatClampNeg = 0 from rfl, f5, lg_eq]
  · simp only [s_L_law_1693, s_L_law_1694, s_L_law_1695, s_L_law_1697, s_L_law_1698, s_L_law_1699, s_L_law_1700, s_L_law_1701, s_L_law_1703, s_L_law_1704, s_L_law_1705, s_L_law_1706, s_L_law_1707, s_L_law_1710, s_L_law_1712, s_L_law_1713, s_L_law_1714, s_L_law_1716, s_L_law_1717, s_L_law_1718, s_L_law_1719, s_L_law_1720, s_L_law_1722, s_L_law_1723, s_L_law_1724, s_L_law_1725, s_L_law_1728, s_L_law_1730, s_L_law_1731, s_L_law_1734, s_L_law_1736, s_L_law_1739, s_L_law_1740, s_L_law_1741, s_L_law_1743, s_L_law_1746, s_L_law_1747, s_L_law_1748, s_L_law_1749, s_L_law_1751, s_L_law_1752, s_L_law_1753, s_L_law_1756, s_L_law_1757, s_L_law_1758, not_false_eq_true, Nat.reduceLT, Nat.reduceAdd, true_and, and_true, if_true, if_false, ite_true, ite_false, xnb_0, xnb_1, xnb_b, xk_v, xk_n, nvp (show i + 1 < E.1 by omega) hL, ncl (show i + 1 < 2147483648 by omega), nvp (show i + 2 < E.1 by omega) hL, ncl (show i + 2 < 2147483648 by omega), nI_1, nI_2, nI_3, nI_4, nI_5, r1, r2, x1, x2, ft, eq_false p]
theorem lw_sail (hi : i + 6 ≤ E.1) (hL : E.1 < 2147483648) (h : stP E (d + 160) 254 [.ref 0, .int (E.2 (i + 1)), .ref 78] 213 [.ref 63, .int (E.2 (i + 1))] n' wI X) : lwG E d n' i 1761 X := by
  intro j5 j6 j7 j8
  obtain ⟨k, v, X1, X2, r1, r2, h3, h4, h5⟩ := h
  have x1 := c63_sail (d := d + 159) r2
  have x2 := x63_k h3
  have ft := f_thrown (E := E) (d := d + 159) h3
  refine ⟨X2, some (.int k), some (.int v), j7, j8, fun Q => ?_, IVk_IV h3, sz_1 h5⟩
  by_cases p : k = 0
  · obtain ⟨f, f1, f2⟩ := h4 p
    have f3 := (J_l f1).1
    have f4 := (J_l f1).2
    subst p
    have f5 : f 0 = v.toInt64 := f2
    simp only [s_L_law_1761, s_L_law_1762, s_L_law_1763, s_L_law_1765, s_L_law_1766, s_L_law_1767, s_L_law_1768, s_L_law_1769, s_L_law_1772, s_L_law_1774, s_L_law_1775, s_L_law_1776, s_L_law_1778, s_L_law_1779, s_L_law_1780, s_L_law_1781, s_L_law_1784, s_L_law_1786, s_L_law_1787, s_L_law_1790, s_L_law_1792, s_L_law_1795, s_L_law_1796, s_L_law_1797, s_L_law_1799, s_L_law_1802, s_L_law_1803, s_L_law_1804, s_L_law_1805, s_L_law_1807, s_L_law_1808, s_L_law_1809, s_L_law_1812, s_L_law_1813, s_L_law_1814, not_false_eq_true, Nat.reduceLT, Nat.reduceAdd, true_and, and_true, if_true, if_false, ite_true, ite_false, xnb_0, xnb_1, xnb_b, xk_v, xk_n, nvp (show i + 1 < E.1 by omega) hL, ncl (show i + 1 < 2147483648 by omega), nI_1, nI_2, nI_3, nI_4, nI_5, r1, r2, x1, x2, ft, f3, f4, show vp_in (0 : Int32) 1 = True from nvp (i := 0) (by omega) (by omega), show (0 : Int32).toNatClampNeg = 0 from rfl, f5, lg_eq]
  · simp only [s_L_law_1761, s_L_law_1762, s_L_law_1763, s_L_law_1765, s_L_law_1766, s_L_law_1767, s_L_law_1768, s_L_law_1769, s_L_law_1772, s_L_law_1774, s_L_law_1775, s_L_law_1776, s_L_law_1778, s_L_law_1779, s_L_law_1780, s_L_law_1781, s_L_law_1784, s_L_law_1786, s_L_law_1787, s_L_law_1790, s_L_law_1792, s_L_law_1795, s_L_law_1796, s_L_law_1797, s_L_law_1799, s_L_law_1802, s_L_law_1803, s_L_law_1804, s_L_law_1805, s_L_law_1807, s_L_law_1808, s_L_law_1809, s_L_law_1812, s_L_law_1813, s_L_law_1814, not_false_eq_true, Nat.reduceLT, Nat.reduceAdd, true_and, and_true, if_true, if_false, ite_true, ite_false, xnb_0, xnb_1, xnb_b, xk_v, xk_n, nvp (show i + 1 < E.1 by omega) hL, ncl (show i + 1 < 2147483648 by omega), nI_1, nI_2, nI_3, nI_4, nI_5, r1, r2, x1, x2, ft, eq_false p]
theorem lw_pointsBehind (hi : i + 6 ≤ E.1) (hL : E.1 < 2147483648) (h : stP E (d + 160) 255 [.ref 0, .int (E.2 (i + 1)), .int (E.2 (i + 2)), .ref 78] 214 [.ref 63, .int (E.2 (i + 1)), .int (E.2 (i + 2))] n' wI X) : lwG E d n' i 1817 X := by
  intro j5 j6 j7 j8
  obtain ⟨k, v, X1, X2, r1, r2, h3, h4, h5⟩ := h
  have x1 := c63_pointsBehind (d := d + 159) r2
  have x2 := x63_k h3
  have ft := f_thrown (E := E) (d := d + 159) h3
  refine ⟨X2, some (.int k), some (.int v), j7, j8, fun Q => ?_, IVk_IV h3, sz_1 h5⟩
  by_cases p : k = 0
  · obtain ⟨f, f1, f2⟩ := h4 p
    have f3 := (J_l f1).1
    have f4 := (J_l f1).2
    subst p
    have f5 : f 0 = v.toInt64 := f2
    simp only [s_L_law_1817, s_L_law_1818, s_L_law_1819, s_L_law_1821, s_L_law_1822, s_L_law_1823, s_L_law_1824, s_L_law_1825, s_L_law_1827, s_L_law_1828, s_L_law_1829, s_L_law_1830, s_L_law_1831, s_L_law_1834, s_L_law_1836, s_L_law_1837, s_L_law_1838, s_L_law_1840, s_L_law_1841, s_L_law_1842, s_L_law_1843, s_L_law_1844, s_L_law_1846, s_L_law_1847, s_L_law_1848, s_L_law_1849, s_L_law_1852, s_L_law_1854, s_L_law_1855, s_L_law_1858, s_L_law_1860, s_L_law_1863, s_L_law_1864, s_L_law_1865, s_L_law_1867, s_L_law_1870, s_L_law_1871, s_L_law_1872, s_L_law_1873, s_L_law_1875, s_L_law_1876, s_L_law_1877, s_L_law_1880, s_L_law_1881, s_L_law_1882, not_false_eq_true, Nat.reduceLT, Nat.reduceAdd, true_and, and_true, if_true, if_false, ite_true, ite_false, xnb_0, xnb_1, xnb_b, xk_v, xk_n, nvp (show i + 1 < E.1 by omega) hL, ncl (show i + 1 < 2147483648 by omega), nvp (show i + 2 < E.1 by omega) hL, ncl (show i + 2 < 2147483648 by omega), nI_1, nI_2, nI_3, nI_4, nI_5, r1, r2, x1, x2, ft, f3, f4, show vp_in (0 : Int32) 1 = True from nvp (i := 0) (by omega) (by omega), show (0 : Int32).toNatClampNeg = 0 from rfl, f5, lg_eq]
  · simp only [s_L_law_1817, s_L_law_1818, s_L_law_1819, s_L_law_1821, s_L_law_1822, s_L_law_1823, s_L_law_1824, s_L_law_1825, s_L_law_1827, s_L_law_1828, s_L_law_1829, s_L_law_1830, s_L_law_1831, s_L_law_1834, s_L_law_1836, s_L_law_1837, s_L_law_1838, s_L_law_1840, s_L_law_1841, s_L_law_1842, s_L_law_1843, s_L_law_1844, s_L_law_1846, s_L_law_1847, s_L_law_1848, s_L_law_1849, s_L_law_1852, s_L_law_1854, s_L_law_1855, s_L_law_1858, s_L_law_1860, s_L_law_1863, s_L_law_1864, s_L_law_1865, s_L_law_1867, s_L_law_1870, s_L_law_1871, s_L_law_1872, s_L_law_1873, s_L_law_1875, s_L_law_1876, s_L_law_1877, s_L_law_1880, s_L_law_1881, s_L_law_1882, not_false_eq_true, Nat.reduceLT, Nat.reduceAdd, true_and, and_true, if_true, if_false, ite_true, ite_false, xnb_0, xnb_1, xnb_b, xk_v, xk_n, nvp (show i + 1 < E.1 by omega) hL, ncl (show i + 1 < 2147483648 by omega), nvp (show i + 2 < E.1 by omega) hL, ncl (show i + 2 < 2147483648 by omega), nI_1, nI_2, nI_3, nI_4, nI_5, r1, r2, x1, x2, ft, eq_false p]
theorem lw_hoursUntilPoints (hi : i + 6 ≤ E.1) (hL : E.1 < 2147483648) (h : stP E (d + 160) 256 [.ref 0, .int (E.2 (i + 1)), .ref 78] 215 [.ref 63, .int (E.2 (i + 1))] n' wI X) : lwG E d n' i 1885 X := by
  intro j5 j6 j7 j8
  obtain ⟨k, v, X1, X2, r1, r2, h3, h4, h5⟩ := h
  have x1 := c63_hoursUntilPoints (d := d + 159) r2
  have x2 := x63_k h3
  have ft := f_thrown (E := E) (d := d + 159) h3
  refine ⟨X2, some (.int k), some (.int v), j7, j8, fun Q => ?_, IVk_IV h3, sz_1 h5⟩
  by_cases p : k = 0
  · obtain ⟨f, f1, f2⟩ := h4 p
    have f3 := (J_l f1).1
    have f4 := (J_l f1).2
    subst p
    have f5 : f 0 = v.toInt64 := f2
    simp only [s_L_law_1885, s_L_law_1886, s_L_law_1887, s_L_law_1889, s_L_law_1890, s_L_law_1891, s_L_law_1892, s_L_law_1893, s_L_law_1896, s_L_law_1898, s_L_law_1899, s_L_law_1900, s_L_law_1902, s_L_law_1903, s_L_law_1904, s_L_law_1905, s_L_law_1908, s_L_law_1910, s_L_law_1911, s_L_law_1914, s_L_law_1916, s_L_law_1919, s_L_law_1920, s_L_law_1921, s_L_law_1923, s_L_law_1926, s_L_law_1927, s_L_law_1928, s_L_law_1929, s_L_law_1931, s_L_law_1932, s_L_law_1933, s_L_law_1936, s_L_law_1937, s_L_law_1938, not_false_eq_true, Nat.reduceLT, Nat.reduceAdd, true_and, and_true, if_true, if_false, ite_true, ite_false, xnb_0, xnb_1, xnb_b, xk_v, xk_n, nvp (show i + 1 < E.1 by omega) hL, ncl (show i + 1 < 2147483648 by omega), nI_1, nI_2, nI_3, nI_4, nI_5, r1, r2, x1, x2, ft, f3, f4, show vp_in (0 : Int32) 1 = True from nvp (i := 0) (by omega) (by omega), show (0 : Int32).toNatClampNeg = 0 from rfl, f5, lg_eq]
  · simp only [s_L_law_1885, s_L_law_1886, s_L_law_1887, s_L_law_1889, s_L_law_1890, s_L_law_1891, s_L_law_1892, s_L_law_1893, s_L_law_1896, s_L_law_1898, s_L_law_1899, s_L_law_1900, s_L_law_1902, s_L_law_1903, s_L_law_1904, s_L_law_1905, s_L_law_1908, s_L_law_1910, s_L_law_1911, s_L_law_1914, s_L_law_1916, s_L_law_1919, s_L_law_1920, s_L_law_1921, s_L_law_1923, s_L_law_1926, s_L_law_1927, s_L_law_1928, s_L_law_1929, s_L_law_1931, s_L_law_1932, s_L_law_1933, s_L_law_1936, s_L_law_1937, s_L_law_1938, not_false_eq_true, Nat.reduceLT, Nat.reduceAdd, true_and, and_true, if_true, if_false, ite_true, ite_false, xnb_0, xnb_1, xnb_b, xk_v, xk_n, nvp (show i + 1 < E.1 by omega) hL, ncl (show i + 1 < 2147483648 by omega), nI_1, nI_2, nI_3, nI_4, nI_5, r1, r2, x1, x2, ft, eq_false p]
theorem lw_bestWind (hi : i + 6 ≤ E.1) (hL : E.1 < 2147483648) (h : stP E (d + 160) 257 [.ref 0, .int (E.2 (i + 1)), .int (E.2 (i + 2)), .ref 78] 216 [.ref 63, .int (E.2 (i + 1)), .int (E.2 (i + 2))] n' wI X) : lwG E d n' i 1941 X := by
  intro j5 j6 j7 j8
  obtain ⟨k, v, X1, X2, r1, r2, h3, h4, h5⟩ := h
  have x1 := c63_bestWind (d := d + 159) r2
  have x2 := x63_k h3
  have ft := f_thrown (E := E) (d := d + 159) h3
  refine ⟨X2, some (.int k), some (.int v), j7, j8, fun Q => ?_, IVk_IV h3, sz_1 h5⟩
  by_cases p : k = 0
  · obtain ⟨f, f1, f2⟩ := h4 p
    have f3 := (J_l f1).1
    have f4 := (J_l f1).2
    subst p
    have f5 : f 0 = v.toInt64 := f2
    simp only [s_L_law_1941, s_L_law_1942, s_L_law_1943, s_L_law_1945, s_L_law_1946, s_L_law_1947, s_L_law_1948, s_L_law_1949, s_L_law_1951, s_L_law_1952, s_L_law_1953, s_L_law_1954, s_L_law_1955, s_L_law_1958, s_L_law_1960, s_L_law_1961, s_L_law_1962, s_L_law_1964, s_L_law_1965, s_L_law_1966, s_L_law_1967, s_L_law_1968, s_L_law_1970, s_L_law_1971, s_L_law_1972, s_L_law_1973, s_L_law_1976, s_L_law_1978, s_L_law_1979, s_L_law_1982, s_L_law_1984, s_L_law_1987, s_L_law_1988, s_L_law_1989, s_L_law_1991, s_L_law_1994, s_L_law_1995, s_L_law_1996, s_L_law_1997, s_L_law_1999, s_L_law_2000, s_L_law_2001, s_L_law_2004, s_L_law_2005, s_L_law_2006, not_false_eq_true, Nat.reduceLT, Nat.reduceAdd, true_and, and_true, if_true, if_false, ite_true, ite_false, xnb_0, xnb_1, xnb_b, xk_v, xk_n, nvp (show i + 1 < E.1 by omega) hL, ncl (show i + 1 < 2147483648 by omega), nvp (show i + 2 < E.1 by omega) hL, ncl (show i + 2 < 2147483648 by omega), nI_1, nI_2, nI_3, nI_4, nI_5, r1, r2, x1, x2, ft, f3, f4, show vp_in (0 : Int32) 1 = True from nvp (i := 0) (by omega) (by omega), show (0 : Int32).toNatClampNeg = 0 from rfl, f5, lg_eq]
  · simp only [s_L_law_1941, s_L_law_1942, s_L_law_1943, s_L_law_1945, s_L_law_1946, s_L_law_1947, s_L_law_1948, s_L_law_1949, s_L_law_1951, s_L_law_1952, s_L_law_1953, s_L_law_1954, s_L_law_1955, s_L_law_1958, s_L_law_1960, s_L_law_1961, s_L_law_1962, s_L_law_1964, s_L_law_1965, s_L_law_1966, s_L_law_1967, s_L_law_1968, s_L_law_1970, s_L_law_1971, s_L_law_1972, s_L_law_1973, s_L_law_1976, s_L_law_1978, s_L_law_1979, s_L_law_1982, s_L_law_1984, s_L_law_1987, s_L_law_1988, s_L_law_1989, s_L_law_1991, s_L_law_1994, s_L_law_1995, s_L_law_1996, s_L_law_1997, s_L_law_1999, s_L_law_2000, s_L_law_2001, s_L_law_2004, s_L_law_2005, s_L_law_2006, not_false_eq_true, Nat.reduceLT, Nat.reduceAdd, true_and, and_true, if_true, if_false, ite_true, ite_false, xnb_0, xnb_1, xnb_b, xk_v, xk_n, nvp (show i + 1 < E.1 by omega) hL, ncl (show i + 1 < 2147483648 by omega), nvp (show i + 2 < E.1 by omega) hL, ncl (show i + 2 < 2147483648 by omega), nI_1, nI_2, nI_3, nI_4, nI_5, r1, r2, x1, x2, ft, eq_false p]
theorem lw_errorAt (hI : IV n X) (hn : n ≤ n') : lwG E d n' i 381 X := by
  intro j5 j6 j7 j8
  obtain ⟨v, X2, r1, r2, h3, h4⟩ := st_errorAt (E := E) (d := d + 158) hI
  have x1 := x63_I hI
  have x0 := x00_I hI
  refine ⟨X2, j5, j6, j7, j8, fun Q => ?_, IV_le (IVk_IV h3) hn, by rw [h4]; omega, by rw [h4]; omega⟩
  simp only [s_L_law_381, s_L_law_382, s_L_law_385, s_L_law_386, s_L_law_389, s_L_law_392, s_L_law_393, not_false_eq_true, Nat.reduceLT, Nat.reduceAdd, true_and, and_true, if_true, if_false, ite_true, ite_false, xnb_0, xnb_1, xnb_b, xk_v, xk_n, r1, r2, x1, x0]
theorem lw_columns (hI : IV n X) (hn : n ≤ n') : lwG E d n' i 394 X := by
  intro j5 j6 j7 j8
  obtain ⟨v, X2, r1, r2, h3, h4⟩ := st_columns (E := E) (d := d + 158) hI
  have x1 := x63_I hI
  have x0 := x00_I hI
  refine ⟨X2, j5, j6, j7, j8, fun Q => ?_, IV_le (IVk_IV h3) hn, by rw [h4]; omega, by rw [h4]; omega⟩
  simp only [s_L_law_394, s_L_law_395, s_L_law_398, s_L_law_399, s_L_law_402, s_L_law_405, s_L_law_406, not_false_eq_true, Nat.reduceLT, Nat.reduceAdd, true_and, and_true, if_true, if_false, ite_true, ite_false, xnb_0, xnb_1, xnb_b, xk_v, xk_n, r1, r2, x1, x0]
theorem lw_rows (hI : IV n X) (hn : n ≤ n') : lwG E d n' i 407 X := by
  intro j5 j6 j7 j8
  obtain ⟨v, X2, r1, r2, h3, h4⟩ := st_rows (E := E) (d := d + 158) hI
  have x1 := x63_I hI
  have x0 := x00_I hI
  refine ⟨X2, j5, j6, j7, j8, fun Q => ?_, IV_le (IVk_IV h3) hn, by rw [h4]; omega, by rw [h4]; omega⟩
  simp only [s_L_law_407, s_L_law_408, s_L_law_411, s_L_law_412, s_L_law_415, s_L_law_418, s_L_law_419, not_false_eq_true, Nat.reduceLT, Nat.reduceAdd, true_and, and_true, if_true, if_false, ite_true, ite_false, xnb_0, xnb_1, xnb_b, xk_v, xk_n, r1, r2, x1, x0]
theorem lw_kettles (hI : IV n X) (hn : n ≤ n') : lwG E d n' i 420 X := by
  intro j5 j6 j7 j8
  obtain ⟨v, X2, r1, r2, h3, h4⟩ := st_kettles (E := E) (d := d + 158) hI
  have x1 := x63_I hI
  have x0 := x00_I hI
  refine ⟨X2, j5, j6, j7, j8, fun Q => ?_, IV_le (IVk_IV h3) hn, by rw [h4]; omega, by rw [h4]; omega⟩
  simp only [s_L_law_420, s_L_law_421, s_L_law_424, s_L_law_425, s_L_law_428, s_L_law_431, s_L_law_432, not_false_eq_true, Nat.reduceLT, Nat.reduceAdd, true_and, and_true, if_true, if_false, ite_true, ite_false, xnb_0, xnb_1, xnb_b, xk_v, xk_n, r1, r2, x1, x0]
theorem lw_clippers (hI : IV n X) (hn : n ≤ n') : lwG E d n' i 433 X := by
  intro j5 j6 j7 j8
  obtain ⟨v, X2, r1, r2, h3, h4⟩ := st_clippers (E := E) (d := d + 158) hI
  have x1 := x63_I hI
  have x0 := x00_I hI
  refine ⟨X2, j5, j6, j7, j8, fun Q => ?_, IV_le (IVk_IV h3) hn, by rw [h4]; omega, by rw [h4]; omega⟩
  simp only [s_L_law_433, s_L_law_434, s_L_law_437, s_L_law_438, s_L_law_441, s_L_law_444, s_L_law_445, not_false_eq_true, Nat.reduceLT, Nat.reduceAdd, true_and, and_true, if_true, if_false, ite_true, ite_false, xnb_0, xnb_1, xnb_b, xk_v, xk_n, r1, r2, x1, x0]
theorem lw_windDirection (hI : IV n X) (hn : n ≤ n') : lwG E d n' i 776 X := by
  intro j5 j6 j7 j8
  obtain ⟨v, X2, r1, r2, h3, h4⟩ := st_windDirection (E := E) (d := d + 158) hI
  have x1 := x63_I hI
  have x0 := x00_I hI
  refine ⟨X2, j5, j6, j7, j8, fun Q => ?_, IV_le (IVk_IV h3) hn, by rw [h4]; omega, by rw [h4]; omega⟩
  simp only [s_L_law_776, s_L_law_777, s_L_law_780, s_L_law_781, s_L_law_784, s_L_law_787, s_L_law_788, not_false_eq_true, Nat.reduceLT, Nat.reduceAdd, true_and, and_true, if_true, if_false, ite_true, ite_false, xnb_0, xnb_1, xnb_b, xk_v, xk_n, r1, r2, x1, x0]
theorem lw_windForce (hI : IV n X) (hn : n ≤ n') : lwG E d n' i 789 X := by
  intro j5 j6 j7 j8
  obtain ⟨v, X2, r1, r2, h3, h4⟩ := st_windForce (E := E) (d := d + 158) hI
  have x1 := x63_I hI
  have x0 := x00_I hI
  refine ⟨X2, j5, j6, j7, j8, fun Q => ?_, IV_le (IVk_IV h3) hn, by rw [h4]; omega, by rw [h4]; omega⟩
  simp only [s_L_law_789, s_L_law_790, s_L_law_793, s_L_law_794, s_L_law_797, s_L_law_800, s_L_law_801, not_false_eq_true, Nat.reduceLT, Nat.reduceAdd, true_and, and_true, if_true, if_false, ite_true, ite_false, xnb_0, xnb_1, xnb_b, xk_v, xk_n, r1, r2, x1, x0]
theorem lw_hour (hI : IV n X) (hn : n ≤ n') : lwG E d n' i 802 X := by
  intro j5 j6 j7 j8
  obtain ⟨v, X2, r1, r2, h3, h4⟩ := st_hour (E := E) (d := d + 158) hI
  have x1 := x63_I hI
  have x0 := x00_I hI
  refine ⟨X2, j5, j6, j7, j8, fun Q => ?_, IV_le (IVk_IV h3) hn, by rw [h4]; omega, by rw [h4]; omega⟩
  simp only [s_L_law_802, s_L_law_803, s_L_law_806, s_L_law_807, s_L_law_810, s_L_law_813, s_L_law_814, not_false_eq_true, Nat.reduceLT, Nat.reduceAdd, true_and, and_true, if_true, if_false, ite_true, ite_false, xnb_0, xnb_1, xnb_b, xk_v, xk_n, r1, r2, x1, x0]
theorem lw_teach (hI : IV n X) (hn : n ≤ n') : lwG E d n' i 368 X := by
  intro j5 j6 j7 j8
  obtain ⟨v, X1, X2, r1, r2, h3, h4⟩ := st_teach (E := E) (d := d + 6) hI
  have x0 := x00_I hI
  have x1 : xcl X1 63 = 11 := by
    have h := (r2 (fun _ => True)).mpr trivial
    rw [e_M_teach, s_M_teach_0, s_M_teach_1, s_M_teach_2] at h
    exact xcl_fl (Nat.lt_of_le_of_lt (Nat.zero_le _) h.1)
  refine ⟨X2, j5, j6, j7, j8, fun Q => ?_, IV_le h3 hn, by rw [h4]; exact Nat.le_refl _, by rw [h4]; exact Nat.le_refl _⟩
  simp only [s_L_law_368, s_L_law_369, s_L_law_372, s_L_law_373, s_L_law_376, s_L_law_379, s_L_law_380, not_false_eq_true, Nat.reduceLT, Nat.reduceAdd, true_and, and_true, if_true, if_false, ite_true, ite_false, xnb_0, xnb_1, xnb_b, xk_v, xk_n, r1, r2, x1, x0]
theorem lw_digest (hI : IV n X) (hn : n ≤ n') : lwG E d n' i 2050 X := by
  intro j5 j6 j7 j8
  obtain ⟨v, X1, X2, r1, r2, h3, h4⟩ := st_digest (E := E) (d := d + 152) hI
  have x0 := x00_I hI
  have x1 : xcl X1 63 = 11 := by
    have h := (r2 (fun _ => True)).mpr trivial
    rw [e_M_digest, s_M_digest_0, s_M_digest_1, s_M_digest_2] at h
    exact xcl_fl (Nat.lt_of_le_of_lt (Nat.zero_le _) h.1)
  refine ⟨X2, j5, j6, j7, j8, fun Q => ?_, IV_le (IVk_IV h3) hn, by rw [h4]; show _ ≤ _; omega, by rw [h4]; show _ ≤ _; omega⟩
  simp only [s_L_law_2050, s_L_law_2051, s_L_law_2054, s_L_law_2055, s_L_law_2058, s_L_law_2059, s_L_law_2062, s_L_law_2063, not_false_eq_true, Nat.reduceLT, Nat.reduceAdd, true_and, and_true, if_true, if_false, ite_true, ite_false, xnb_0, xnb_1, xnb_b, xk_v, xk_n, r1, r2, x1, x0, lg_eq]
theorem lw_meanPoints (hI : IV n X) (hn : n ≤ n') : lwG E d n' i 2009 X := by
  intro j5 j6 j7 j8
  obtain ⟨v, X2, r1, r2, h3, h4⟩ := st_meanPoints (E := E) (d := d + 157) hI
  have x0 := x00_I hI
  have x1 := x63_I hI
  refine ⟨X2, some (.double v), some xmk, some (.double v), some xmk, fun Q => ?_, IV_le (IVk_IV h3) hn, by rw [h4]; omega, by rw [h4]; omega⟩
  by_cases p : Op.cmpValue (FP.dcmp v v) .l = 0
  · simp only [s_L_law_2009, s_L_law_2010, s_L_law_2013, s_L_law_2015, s_L_law_2016, s_L_law_2019, s_L_law_2021, s_L_law_2023, s_L_law_2025, s_L_law_2026, s_L_law_2029, s_L_law_2031, s_L_law_2033, s_L_law_2034, s_L_law_2037, s_L_law_2039, s_L_law_2041, s_L_law_2042, s_L_law_2045, s_L_law_2046, s_L_law_2047, not_false_eq_true, Nat.reduceLT, Nat.reduceAdd, true_and, and_true, if_true, if_false, ite_true, ite_false, xnb_0, xnb_1, xnb_b, xk_v, xk_n, r1, r2, x1, x0, eq_true p]
  · simp only [s_L_law_2009, s_L_law_2010, s_L_law_2013, s_L_law_2015, s_L_law_2016, s_L_law_2019, s_L_law_2021, s_L_law_2023, s_L_law_2025, s_L_law_2026, s_L_law_2029, s_L_law_2031, s_L_law_2033, s_L_law_2034, s_L_law_2037, s_L_law_2039, s_L_law_2041, s_L_law_2042, s_L_law_2045, s_L_law_2046, s_L_law_2047, not_false_eq_true, Nat.reduceLT, Nat.reduceAdd, true_and, and_true, if_true, if_false, ite_true, ite_false, xnb_0, xnb_1, xnb_b, xk_v, xk_n, r1, r2, x1, x0, eq_false p]
end LAWC
