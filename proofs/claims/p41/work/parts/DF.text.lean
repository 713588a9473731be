/-! ===== the law's reckoning writes its book ===== -/
section STEXT
variable {E : xE} {d D : Nat} {Q : xR → Prop} {H X H0 : xH} {ad ro : Nat → Nat} {b a a' : Nat → Nat → Int32} {s t t' : Nat → Int32} {nk nc nn lo hi : Nat} {ru : Nat → Option Nat} {r k c i j m n p q co rw' wp cb sl u l2 : Nat} {rs re : Nat → Nat} {j1 j2 j3 j4 j5 : Option Value} {ym : xM} {x y z : Nat}

theorem f_S_behind {x : bhr} (hR : kRl E b nn rs re) (h : jOK ad ro nk nc nn lo hi) (hB : kBo b s co rw' nk nn) {hh : Nat} (hh6 : hh ≤ 100) (hS : kSt x.1.1 x.2 co rw' nk nn n) (hn : n + 6 * hh < 999990) (hJ : jR E ro ru nn hi H) (hl : hi ≤ H.2.1) : ∃ X, (∀ Q, xcall E xprog (d + 7) 118 [.ref (ad 1), .int (nI hh)] (jH ad ro b s nk nc nn ru H x.1.1 x.2) Q = Q (.inl (some (.int (hrV b s nk nc nn rs re hh x 0))), (jH ad ro b s nk nc nn ru X (hrI b s nk nc nn rs re hh x).1.1 (hrI b s nk nc nn rs re hh x).2))) ∧ (∀ n, n < H.2.1 → X.1 n = H.1 n) ∧ H.2.1 ≤ X.2.1 ∧ X.2.1 ≤ H.2.1 + 7 * hh ∧ X.2.2 ≤ H.2.2 + 70 * hh := by
  obtain ⟨X, e1, e2⟩ := l_S_be (E := E) (d := d) hR h hB hh6 hh 0 n 0 x H (by omega) hS hn hJ hl
  refine ⟨X, fun Q => ?_, e2⟩
  rw [e_S_behind]
  simp only [s_S_behind_0, s_S_behind_1, s_S_behind_2, s_S_behind_3, not_false_eq_true, Nat.reduceLT, Nat.reduceAdd, true_and, and_true, if_true, if_false, ite_true, ite_false, xnb_0, xnb_1, xnb_b, xk_v, xk_n]
  exact e1 Q
variable {s1 s2 : Nat × List (Option Value) × List Value}
theorem rn_i (hn : n ≤ 9999) (h : ∀ (H X : xH) (Q : xR → Prop), (∀ a, a < lo → H.1 a = H0.1 a) → xcl H q = 11 → (∀ Q, xcall E xprog (d + 6) 150 [.ref q, .int (nI n)] H Q = Q (.inl (some (.ref q)), X)) → xr E (d + 6) ym Q (s1.1, s1.2.1, s1.2.2, H) = xr E (d + 6) ym Q (s2.1, s2.2.1, s2.2.2, X)) : rnT E (d + 6) ym lo q H0 s1 s2 (dcL n) 0 := by
  intro H L cb sl hf hs hl
  obtain ⟨X, e1, e2, e3, e4⟩ := sb_appI (E := E) (d := d + 1) hs hn hl
  exact ⟨X, cb, sl, fun Q => h H X Q hf (sb_cl hs) e1, e2, fun a ha => (e3 a ha).trans (hf a ha), e4, by omega, by omega⟩
theorem rn_h (hn : n < 128) (h : ∀ (H X : xH) (Q : xR → Prop), (∀ a, a < lo → H.1 a = H0.1 a) → xcl H q = 11 → (∀ Q, xcall E xprog (d + 6) 149 [.ref q, .int (nI n)] H Q = Q (.inl (some (.ref q)), X)) → xr E (d + 6) ym Q (s1.1, s1.2.1, s1.2.2, H) = xr E (d + 6) ym Q (s2.1, s2.2.1, s2.2.2, X)) : rnT E (d + 6) ym lo q H0 s1 s2 [n] 0 := by
  intro H L cb sl hf hs hl
  obtain ⟨X, e1, e2, e3, e4⟩ := sb_appC (E := E) (d := d + 1) hs hn hl
  exact ⟨X, cb, sl, fun Q => h H X Q hf (sb_cl hs) e1, e2, fun a ha => (e3 a ha).trans (hf a ha), e4, by omega, by omega⟩
theorem j_lt (h : jOK ad ro nk nc nn lo hi) (hr : jU nk nc nn r) : ad r < hi := by
  have e := h.2.2.2.1 r hr
  have h0 : ¬ ro (ad r) = 0 := by rw [e]; unfold jU at hr; omega
  exact (h.2.2.2.2 _ h0).2.2.2
/-- what is read of the reckoning, in every heap that holds it -/
def jF (ad : Nat → Nat) (b : Nat → Nat → Int32) (s : Nat → Int32) (nk nc nn : Nat) (ru : Nat → Option Nat) (a : Nat → Nat → Int32) (t : Nat → Int32) (H : xH) : Prop :=
  H.1 (ad 1) = .inr (10, [.int (s 0), .int (s 1), .int (t 2), .int (t 0), .int (t 1), .ref (ad 2), .ref (ad 3), .ref (ad 4), .ref (ad 5)]) ∧ H.1 (ad 2) = xarA nk (fun k => if k < nk then some (ad (10 + k)) else none) ∧ H.1 (ad 3) = xarA nc (fun k => if k < nc then some (ad (30 + k)) else none) ∧ H.1 (ad 4) = xarA nn (fun k => if k < nn then some (ad (20 + k)) else none) ∧ H.1 (ad 5) = xarR nn ru ∧ (∀ k, k < nk → H.1 (ad (10 + k)) = xarI 5 (kf b a k)) ∧ (∀ c, c < nn → H.1 (ad (20 + c)) = xarI 9 (cf b a c)) ∧ ∀ k, k < nc → H.1 (ad (30 + k)) = xarI 2 (uf b k)
theorem jF_of (h : jOK ad ro nk nc nn lo hi) (hl : hi ≤ l2) (hf : ∀ n, n < l2 → X.1 n = (jH ad ro b s nk nc nn ru H a t).1 n) : jF ad b s nk nc nn ru a t X := by
  have g := fun (r : Nat) (hr : jU nk nc nn r) => hf (ad r) (by have := j_lt h hr; omega)
  refine ⟨(g 1 (Or.inl ⟨by omega, by omega⟩)).trans (j_1 h), (g 2 (Or.inl ⟨by omega, by omega⟩)).trans (j_2 h), (g 3 (Or.inl ⟨by omega, by omega⟩)).trans (j_3 h), (g 4 (Or.inl ⟨by omega, by omega⟩)).trans (j_4 h), (g 5 (Or.inl ⟨by omega, by omega⟩)).trans (j_5 h), fun k hk => (g _ (Or.inr (Or.inl ⟨by omega, by omega⟩))).trans (j_k h hk), fun c hc => (g _ (Or.inr (Or.inr (Or.inl ⟨by omega, by omega⟩)))).trans (j_c h hc), fun k hk => (g _ (Or.inr (Or.inr (Or.inr ⟨by omega, by omega⟩)))).trans (j_u h hk)⟩
theorem uf_0 : uf b k 0 = b 5 k := rfl
theorem uf_1 : uf b k 1 = b 6 k := rfl
theorem v2_0 : vp_in 0 2 = True := nvp (i := 0) (by omega) (by omega)
theorem v2_1 : vp_in 1 2 = True := nvp (i := 1) (by omega) (by omega)
theorem tx_1 (h : jOK ad ro nk nc nn lo hi) (hl : hi ≤ l2) (h0 : s 0 = nI co) (hco : co ≤ 9999) : rnT E (d + 6) m_S_text l2 q (jH ad ro b s nk nc nn ru H a t) (9, [some (.ref (ad 1)), none, none, none, none, none], [.ref q]) (16, [some (.ref (ad 1)), none, none, none, none, none], [.ref q]) (dcL co) 0 := by
  have hnk := h.1
  have hnc := h.2.1
  have hnn := h.2.2.1
  refine rn_i (n := co) (by omega) fun H X Q hf hq hxx => ?_
  obtain ⟨F1, F2, F3, F4, F5, F6, F7, F8⟩ := jF_of (X := H) h hl hf
  simp only [↓reduceIte, s_S_text_9, s_S_text_10, s_S_text_13, not_false_eq_true, Nat.reduceLT, Nat.reduceAdd, true_and, and_true, if_true, if_false, ite_true, ite_false, xnb_0, xnb_1, xnb_b, xk_v, xk_n, xf_of F1, xll_10, xlg_10_0, xlg_10_1, xlg_10_2, xlg_10_3, xlg_10_4, xlg_10_5, xlg_10_6, xlg_10_7, xlg_10_8, h0, hq, hxx]
theorem tx_2 (h : jOK ad ro nk nc nn lo hi) (hl : hi ≤ l2) : rnT E (d + 6) m_S_text l2 q (jH ad ro b s nk nc nn ru H a t) (16, [some (.ref (ad 1)), none, none, none, none, none], [.ref q]) (21, [some (.ref (ad 1)), none, none, none, none, none], [.ref q]) (txL 21) 0 := by
  have hnk := h.1
  have hnc := h.2.1
  have hnn := h.2.2.1
  refine rn_c (i := 21) (by omega) fun H X Q hf hq hxx => ?_
  obtain ⟨F1, F2, F3, F4, F5, F6, F7, F8⟩ := jF_of (X := H) h hl hf
  simp only [↓reduceIte, s_S_text_16, s_S_text_18, not_false_eq_true, Nat.reduceLT, Nat.reduceAdd, true_and, and_true, if_true, if_false, ite_true, ite_false, xnb_0, xnb_1, xnb_b, xk_v, xk_n, xf_of F1, xll_10, xlg_10_0, xlg_10_1, xlg_10_2, xlg_10_3, xlg_10_4, xlg_10_5, xlg_10_6, xlg_10_7, xlg_10_8, hq, hxx]
theorem tx_3 (h : jOK ad ro nk nc nn lo hi) (hl : hi ≤ l2) (h1 : s 1 = nI rw') (hro : rw' ≤ 9999) : rnT E (d + 6) m_S_text l2 q (jH ad ro b s nk nc nn ru H a t) (21, [some (.ref (ad 1)), none, none, none, none, none], [.ref q]) (28, [some (.ref (ad 1)), none, none, none, none, none], [.ref q]) (dcL rw') 0 := by
  have hnk := h.1
  have hnc := h.2.1
  have hnn := h.2.2.1
  refine rn_i (n := rw') (by omega) fun H X Q hf hq hxx => ?_
  obtain ⟨F1, F2, F3, F4, F5, F6, F7, F8⟩ := jF_of (X := H) h hl hf
  simp only [↓reduceIte, s_S_text_21, s_S_text_22, s_S_text_25, not_false_eq_true, Nat.reduceLT, Nat.reduceAdd, true_and, and_true, if_true, if_false, ite_true, ite_false, xnb_0, xnb_1, xnb_b, xk_v, xk_n, xf_of F1, xll_10, xlg_10_0, xlg_10_1, xlg_10_2, xlg_10_3, xlg_10_4, xlg_10_5, xlg_10_6, xlg_10_7, xlg_10_8, h1, hq, hxx]
theorem tx_4 (h : jOK ad ro nk nc nn lo hi) (hl : hi ≤ l2) : rnT E (d + 6) m_S_text l2 q (jH ad ro b s nk nc nn ru H a t) (28, [some (.ref (ad 1)), none, none, none, none, none], [.ref q]) (33, [some (.ref (ad 1)), none, none, none, none, none], [.ref q]) (txL 22) 0 := by
  have hnk := h.1
  have hnc := h.2.1
  have hnn := h.2.2.1
  refine rn_c (i := 22) (by omega) fun H X Q hf hq hxx => ?_
  obtain ⟨F1, F2, F3, F4, F5, F6, F7, F8⟩ := jF_of (X := H) h hl hf
  simp only [↓reduceIte, s_S_text_28, s_S_text_30, not_false_eq_true, Nat.reduceLT, Nat.reduceAdd, true_and, and_true, if_true, if_false, ite_true, ite_false, xnb_0, xnb_1, xnb_b, xk_v, xk_n, xf_of F1, xll_10, xlg_10_0, xlg_10_1, xlg_10_2, xlg_10_3, xlg_10_4, xlg_10_5, xlg_10_6, xlg_10_7, xlg_10_8, hq, hxx]
theorem tx_5 (h : jOK ad ro nk nc nn lo hi) (hl : hi ≤ l2) : rnT E (d + 6) m_S_text l2 q (jH ad ro b s nk nc nn ru H a t) (33, [some (.ref (ad 1)), none, none, none, none, none], [.ref q]) (45, [some (.ref (ad 1)), some (.ref q), some (.ref (ad 2)), some (.int (nI nk)), some (.int 0), none], []) [] 0 := by
  have hnk := h.1
  have hnc := h.2.1
  have hnn := h.2.2.1
  refine rn_0 fun H Q hf hq => ?_
  obtain ⟨F1, F2, F3, F4, F5, F6, F7, F8⟩ := jF_of (X := H) h hl hf
  simp only [↓reduceIte, s_S_text_33, s_S_text_34, s_S_text_35, s_S_text_38, s_S_text_39, s_S_text_40, s_S_text_41, s_S_text_42, s_S_text_43, not_false_eq_true, Nat.reduceLT, Nat.reduceAdd, true_and, and_true, if_true, if_false, ite_true, ite_false, xnb_0, xnb_1, xnb_b, xk_v, xk_n, xf_of F1, xll_10, xlg_10_0, xlg_10_1, xlg_10_2, xlg_10_3, xlg_10_4, xlg_10_5, xlg_10_6, xlg_10_7, xlg_10_8, xln_A F2, Option.isSome_some, Option.getD_some, hq]
theorem i2c_c (hc : c < nn) (hn : nn ≤ 6) : ((nI (97 + c)).toUInt32 % 65536).toInt32 = nI (97 + c) := by
  have : ∀ c, c < 6 → ((nI (97 + c)).toUInt32 % 65536).toInt32 = nI (97 + c) := by decide +kernel
  exact this c (by omega)
theorem tk_1 (h : jOK ad ro nk nc nn lo hi) (hl : hi ≤ l2) (hi2 : i < nk) : rnT E (d + 6) m_S_text l2 q (jH ad ro b s nk nc nn ru H a t) (45, [some (.ref (ad 1)), some (.ref q), some (.ref (ad 2)), some (.int (nI nk)), some (.int (nI i)), j5], []) (63, [some (.ref (ad 1)), some (.ref q), some (.ref (ad 2)), some (.int (nI nk)), some (.int (nI i)), some (.ref (ad (10 + i)))], [.ref q]) (txL 23) 0 := by
  have hnk := h.1
  have hnc := h.2.1
  have hnn := h.2.2.1
  refine rn_c (i := 23) (by omega) fun H X Q hf hq hxx => ?_
  obtain ⟨F1, F2, F3, F4, F5, F6, F7, F8⟩ := jF_of (X := H) h hl hf
  simp only [↓reduceIte, s_S_text_45, s_S_text_47, s_S_text_48, s_S_text_51, s_S_text_52, s_S_text_54, s_S_text_55, s_S_text_57, s_S_text_58, s_S_text_60, not_false_eq_true, Nat.reduceLT, Nat.reduceAdd, true_and, and_true, if_true, if_false, ite_true, ite_false, xnb_0, xnb_1, xnb_b, xk_v, xk_n, xf_of F1, xll_10, xlg_10_0, xlg_10_1, xlg_10_2, xlg_10_3, xlg_10_4, xlg_10_5, xlg_10_6, xlg_10_7, xlg_10_8, nlt hi2 (by omega), (xA_of F2).1, (xA_of F2).2.1, nvp hi2 (by omega), ncl (show i < 2147483648 by omega), if_pos hi2, xrf_s, hq, hxx]
theorem tk_2 (h : jOK ad ro nk nc nn lo hi) (hl : hi ≤ l2) (hi2 : i < nk) (hx : b 2 i = nI x) (hx2 : x ≤ 9999) : rnT E (d + 6) m_S_text l2 q (jH ad ro b s nk nc nn ru H a t) (63, [some (.ref (ad 1)), some (.ref q), some (.ref (ad 2)), some (.int (nI nk)), some (.int (nI i)), some (.ref (ad (10 + i)))], [.ref q]) (70, [some (.ref (ad 1)), some (.ref q), some (.ref (ad 2)), some (.int (nI nk)), some (.int (nI i)), some (.ref (ad (10 + i)))], [.ref q]) (dcL x) 0 := by
  have hnk := h.1
  have hnc := h.2.1
  have hnn := h.2.2.1
  refine rn_i (n := x) (by omega) fun H X Q hf hq hxx => ?_
  obtain ⟨F1, F2, F3, F4, F5, F6, F7, F8⟩ := jF_of (X := H) h hl hf
  simp only [↓reduceIte, s_S_text_63, s_S_text_65, s_S_text_66, s_S_text_67, not_false_eq_true, Nat.reduceLT, Nat.reduceAdd, true_and, and_true, if_true, if_false, ite_true, ite_false, xnb_0, xnb_1, xnb_b, xk_v, xk_n, xf_of F1, xll_10, xlg_10_0, xlg_10_1, xlg_10_2, xlg_10_3, xlg_10_4, xlg_10_5, xlg_10_6, xlg_10_7, xlg_10_8, xIl_of (F6 i hi2), xIf_of (F6 i hi2), ic_0, ic_1, ic_2, v5_0, v5_1, v5_2, kf_0, kf_1, kf_2, hx, hq, hxx]
theorem tk_3 (h : jOK ad ro nk nc nn lo hi) (hl : hi ≤ l2) : rnT E (d + 6) m_S_text l2 q (jH ad ro b s nk nc nn ru H a t) (70, [some (.ref (ad 1)), some (.ref q), some (.ref (ad 2)), some (.int (nI nk)), some (.int (nI i)), some (.ref (ad (10 + i)))], [.ref q]) (75, [some (.ref (ad 1)), some (.ref q), some (.ref (ad 2)), some (.int (nI nk)), some (.int (nI i)), some (.ref (ad (10 + i)))], [.ref q]) (txL 21) 0 := by
  have hnk := h.1
  have hnc := h.2.1
  have hnn := h.2.2.1
  refine rn_c (i := 21) (by omega) fun H X Q hf hq hxx => ?_
  obtain ⟨F1, F2, F3, F4, F5, F6, F7, F8⟩ := jF_of (X := H) h hl hf
  simp only [↓reduceIte, s_S_text_70, s_S_text_72, not_false_eq_true, Nat.reduceLT, Nat.reduceAdd, true_and, and_true, if_true, if_false, ite_true, ite_false, xnb_0, xnb_1, xnb_b, xk_v, xk_n, xf_of F1, xll_10, xlg_10_0, xlg_10_1, xlg_10_2, xlg_10_3, xlg_10_4, xlg_10_5, xlg_10_6, xlg_10_7, xlg_10_8, hq, hxx]
theorem tk_4 (h : jOK ad ro nk nc nn lo hi) (hl : hi ≤ l2) (hi2 : i < nk) (hx : b 3 i = nI x) (hx2 : x ≤ 9999) : rnT E (d + 6) m_S_text l2 q (jH ad ro b s nk nc nn ru H a t) (75, [some (.ref (ad 1)), some (.ref q), some (.ref (ad 2)), some (.int (nI nk)), some (.int (nI i)), some (.ref (ad (10 + i)))], [.ref q]) (82, [some (.ref (ad 1)), some (.ref q), some (.ref (ad 2)), some (.int (nI nk)), some (.int (nI i)), some (.ref (ad (10 + i)))], [.ref q]) (dcL x) 0 := by
  have hnk := h.1
  have hnc := h.2.1
  have hnn := h.2.2.1
  refine rn_i (n := x) (by omega) fun H X Q hf hq hxx => ?_
  obtain ⟨F1, F2, F3, F4, F5, F6, F7, F8⟩ := jF_of (X := H) h hl hf
  simp only [↓reduceIte, s_S_text_75, s_S_text_77, s_S_text_78, s_S_text_79, not_false_eq_true, Nat.reduceLT, Nat.reduceAdd, true_and, and_true, if_true, if_false, ite_true, ite_false, xnb_0, xnb_1, xnb_b, xk_v, xk_n, xf_of F1, xll_10, xlg_10_0, xlg_10_1, xlg_10_2, xlg_10_3, xlg_10_4, xlg_10_5, xlg_10_6, xlg_10_7, xlg_10_8, xIl_of (F6 i hi2), xIf_of (F6 i hi2), ic_0, ic_1, ic_2, v5_0, v5_1, v5_2, kf_0, kf_1, kf_2, hx, hq, hxx]
theorem tk_5 (h : jOK ad ro nk nc nn lo hi) (hl : hi ≤ l2) : rnT E (d + 6) m_S_text l2 q (jH ad ro b s nk nc nn ru H a t) (82, [some (.ref (ad 1)), some (.ref q), some (.ref (ad 2)), some (.int (nI nk)), some (.int (nI i)), some (.ref (ad (10 + i)))], [.ref q]) (87, [some (.ref (ad 1)), some (.ref q), some (.ref (ad 2)), some (.int (nI nk)), some (.int (nI i)), some (.ref (ad (10 + i)))], [.ref q]) (txL 24) 0 := by
  have hnk := h.1
  have hnc := h.2.1
  have hnn := h.2.2.1
  refine rn_c (i := 24) (by omega) fun H X Q hf hq hxx => ?_
  obtain ⟨F1, F2, F3, F4, F5, F6, F7, F8⟩ := jF_of (X := H) h hl hf
  simp only [↓reduceIte, s_S_text_82, s_S_text_84, not_false_eq_true, Nat.reduceLT, Nat.reduceAdd, true_and, and_true, if_true, if_false, ite_true, ite_false, xnb_0, xnb_1, xnb_b, xk_v, xk_n, xf_of F1, xll_10, xlg_10_0, xlg_10_1, xlg_10_2, xlg_10_3, xlg_10_4, xlg_10_5, xlg_10_6, xlg_10_7, xlg_10_8, hq, hxx]
theorem tk_6 (h : jOK ad ro nk nc nn lo hi) (hl : hi ≤ l2) (hi2 : i < nk) (hx : b 4 i = nI x) (hx2 : x ≤ 9999) : rnT E (d + 6) m_S_text l2 q (jH ad ro b s nk nc nn ru H a t) (87, [some (.ref (ad 1)), some (.ref q), some (.ref (ad 2)), some (.int (nI nk)), some (.int (nI i)), some (.ref (ad (10 + i)))], [.ref q]) (94, [some (.ref (ad 1)), some (.ref q), some (.ref (ad 2)), some (.int (nI nk)), some (.int (nI i)), some (.ref (ad (10 + i)))], [.ref q]) (dcL x) 0 := by
  have hnk := h.1
  have hnc := h.2.1
  have hnn := h.2.2.1
  refine rn_i (n := x) (by omega) fun H X Q hf hq hxx => ?_
  obtain ⟨F1, F2, F3, F4, F5, F6, F7, F8⟩ := jF_of (X := H) h hl hf
  simp only [↓reduceIte, s_S_text_87, s_S_text_89, s_S_text_90, s_S_text_91, not_false_eq_true, Nat.reduceLT, Nat.reduceAdd, true_and, and_true, if_true, if_false, ite_true, ite_false, xnb_0, xnb_1, xnb_b, xk_v, xk_n, xf_of F1, xll_10, xlg_10_0, xlg_10_1, xlg_10_2, xlg_10_3, xlg_10_4, xlg_10_5, xlg_10_6, xlg_10_7, xlg_10_8, xIl_of (F6 i hi2), xIf_of (F6 i hi2), ic_0, ic_1, ic_2, v5_0, v5_1, v5_2, kf_0, kf_1, kf_2, hx, hq, hxx]
theorem tk_7 (h : jOK ad ro nk nc nn lo hi) (hl : hi ≤ l2) : rnT E (d + 6) m_S_text l2 q (jH ad ro b s nk nc nn ru H a t) (94, [some (.ref (ad 1)), some (.ref q), some (.ref (ad 2)), some (.int (nI nk)), some (.int (nI i)), some (.ref (ad (10 + i)))], [.ref q]) (45, [some (.ref (ad 1)), some (.ref q), some (.ref (ad 2)), some (.int (nI nk)), some (.int (nI (i + 1))), some (.ref (ad (10 + i)))], []) (txL 22) 0 := by
  have hnk := h.1
  have hnc := h.2.1
  have hnn := h.2.2.1
  refine rn_c (i := 22) (by omega) fun H X Q hf hq hxx => ?_
  obtain ⟨F1, F2, F3, F4, F5, F6, F7, F8⟩ := jF_of (X := H) h hl hf
  simp only [↓reduceIte, s_S_text_94, s_S_text_96, s_S_text_99, s_S_text_100, s_S_text_103, not_false_eq_true, Nat.reduceLT, Nat.reduceAdd, true_and, and_true, if_true, if_false, ite_true, ite_false, xnb_0, xnb_1, xnb_b, xk_v, xk_n, xf_of F1, xll_10, xlg_10_0, xlg_10_1, xlg_10_2, xlg_10_3, xlg_10_4, xlg_10_5, xlg_10_6, xlg_10_7, xlg_10_8, show nI i + 1 = nI (i + 1) from nI_ad i 1, hq, hxx]
theorem tk_8 (h : jOK ad ro nk nc nn lo hi) (hl : hi ≤ l2) : rnT E (d + 6) m_S_text l2 q (jH ad ro b s nk nc nn ru H a t) (45, [some (.ref (ad 1)), some (.ref q), some (.ref (ad 2)), some (.int (nI nk)), some (.int (nI nk)), j5], []) (117, [some (.ref (ad 1)), some (.ref q), some (.ref (ad 3)), some (.int (nI nc)), some (.int 0), j5], []) [] 0 := by
  have hnk := h.1
  have hnc := h.2.1
  have hnn := h.2.2.1
  refine rn_0 fun H Q hf hq => ?_
  obtain ⟨F1, F2, F3, F4, F5, F6, F7, F8⟩ := jF_of (X := H) h hl hf
  simp only [↓reduceIte, s_S_text_45, s_S_text_47, s_S_text_48, s_S_text_51, s_S_text_52, s_S_text_54, s_S_text_55, s_S_text_57, s_S_text_58, s_S_text_60, s_S_text_63, s_S_text_65, s_S_text_66, s_S_text_67, s_S_text_70, s_S_text_72, s_S_text_75, s_S_text_77, s_S_text_78, s_S_text_79, s_S_text_82, s_S_text_84, s_S_text_87, s_S_text_89, s_S_text_90, s_S_text_91, s_S_text_94, s_S_text_96, s_S_text_99, s_S_text_100, s_S_text_103, s_S_text_106, s_S_text_107, s_S_text_110, s_S_text_111, s_S_text_112, s_S_text_113, s_S_text_114, s_S_text_115, not_false_eq_true, Nat.reduceLT, Nat.reduceAdd, true_and, and_true, if_true, if_false, ite_true, ite_false, xnb_0, xnb_1, xnb_b, xk_v, xk_n, xf_of F1, xll_10, xlg_10_0, xlg_10_1, xlg_10_2, xlg_10_3, xlg_10_4, xlg_10_5, xlg_10_6, xlg_10_7, xlg_10_8, nge (Nat.le_refl nk) (by omega), xln_A F3, Option.isSome_some, Option.getD_some, hq]
theorem tu_1 (h : jOK ad ro nk nc nn lo hi) (hl : hi ≤ l2) (hi2 : i < nc) : rnT E (d + 6) m_S_text l2 q (jH ad ro b s nk nc nn ru H a t) (117, [some (.ref (ad 1)), some (.ref q), some (.ref (ad 3)), some (.int (nI nc)), some (.int (nI i)), j5], []) (135, [some (.ref (ad 1)), some (.ref q), some (.ref (ad 3)), some (.int (nI nc)), some (.int (nI i)), some (.ref (ad (30 + i)))], [.ref q]) (txL 25) 0 := by
  have hnk := h.1
  have hnc := h.2.1
  have hnn := h.2.2.1
  refine rn_c (i := 25) (by omega) fun H X Q hf hq hxx => ?_
  obtain ⟨F1, F2, F3, F4, F5, F6, F7, F8⟩ := jF_of (X := H) h hl hf
  simp only [↓reduceIte, s_S_text_117, s_S_text_119, s_S_text_120, s_S_text_123, s_S_text_124, s_S_text_126, s_S_text_127, s_S_text_129, s_S_text_130, s_S_text_132, not_false_eq_true, Nat.reduceLT, Nat.reduceAdd, true_and, and_true, if_true, if_false, ite_true, ite_false, xnb_0, xnb_1, xnb_b, xk_v, xk_n, xf_of F1, xll_10, xlg_10_0, xlg_10_1, xlg_10_2, xlg_10_3, xlg_10_4, xlg_10_5, xlg_10_6, xlg_10_7, xlg_10_8, nlt hi2 (by omega), (xA_of F3).1, (xA_of F3).2.1, nvp hi2 (by omega), ncl (show i < 2147483648 by omega), if_pos hi2, xrf_s, hq, hxx]
theorem tu_2 (h : jOK ad ro nk nc nn lo hi) (hl : hi ≤ l2) (hi2 : i < nc) (hx : b 5 i = nI x) (hx2 : x ≤ 9999) : rnT E (d + 6) m_S_text l2 q (jH ad ro b s nk nc nn ru H a t) (135, [some (.ref (ad 1)), some (.ref q), some (.ref (ad 3)), some (.int (nI nc)), some (.int (nI i)), some (.ref (ad (30 + i)))], [.ref q]) (142, [some (.ref (ad 1)), some (.ref q), some (.ref (ad 3)), some (.int (nI nc)), some (.int (nI i)), some (.ref (ad (30 + i)))], [.ref q]) (dcL x) 0 := by
  have hnk := h.1
  have hnc := h.2.1
  have hnn := h.2.2.1
  refine rn_i (n := x) (by omega) fun H X Q hf hq hxx => ?_
  obtain ⟨F1, F2, F3, F4, F5, F6, F7, F8⟩ := jF_of (X := H) h hl hf
  simp only [↓reduceIte, s_S_text_135, s_S_text_137, s_S_text_138, s_S_text_139, not_false_eq_true, Nat.reduceLT, Nat.reduceAdd, true_and, and_true, if_true, if_false, ite_true, ite_false, xnb_0, xnb_1, xnb_b, xk_v, xk_n, xf_of F1, xll_10, xlg_10_0, xlg_10_1, xlg_10_2, xlg_10_3, xlg_10_4, xlg_10_5, xlg_10_6, xlg_10_7, xlg_10_8, xIl_of (F8 i hi2), xIf_of (F8 i hi2), ic_0, ic_1, v2_0, v2_1, uf_0, uf_1, hx, hq, hxx]
theorem tu_3 (h : jOK ad ro nk nc nn lo hi) (hl : hi ≤ l2) : rnT E (d + 6) m_S_text l2 q (jH ad ro b s nk nc nn ru H a t) (142, [some (.ref (ad 1)), some (.ref q), some (.ref (ad 3)), some (.int (nI nc)), some (.int (nI i)), some (.ref (ad (30 + i)))], [.ref q]) (147, [some (.ref (ad 1)), some (.ref q), some (.ref (ad 3)), some (.int (nI nc)), some (.int (nI i)), some (.ref (ad (30 + i)))], [.ref q]) (txL 21) 0 := by
  have hnk := h.1
  have hnc := h.2.1
  have hnn := h.2.2.1
  refine rn_c (i := 21) (by omega) fun H X Q hf hq hxx => ?_
  obtain ⟨F1, F2, F3, F4, F5, F6, F7, F8⟩ := jF_of (X := H) h hl hf
  simp only [↓reduceIte, s_S_text_142, s_S_text_144, not_false_eq_true, Nat.reduceLT, Nat.reduceAdd, true_and, and_true, if_true, if_false, ite_true, ite_false, xnb_0, xnb_1, xnb_b, xk_v, xk_n, xf_of F1, xll_10, xlg_10_0, xlg_10_1, xlg_10_2, xlg_10_3, xlg_10_4, xlg_10_5, xlg_10_6, xlg_10_7, xlg_10_8, hq, hxx]
theorem tu_4 (h : jOK ad ro nk nc nn lo hi) (hl : hi ≤ l2) (hi2 : i < nc) (hx : b 6 i = nI x) (hx2 : x ≤ 9999) : rnT E (d + 6) m_S_text l2 q (jH ad ro b s nk nc nn ru H a t) (147, [some (.ref (ad 1)), some (.ref q), some (.ref (ad 3)), some (.int (nI nc)), some (.int (nI i)), some (.ref (ad (30 + i)))], [.ref q]) (154, [some (.ref (ad 1)), some (.ref q), some (.ref (ad 3)), some (.int (nI nc)), some (.int (nI i)), some (.ref (ad (30 + i)))], [.ref q]) (dcL x) 0 := by
  have hnk := h.1
  have hnc := h.2.1
  have hnn := h.2.2.1
  refine rn_i (n := x) (by omega) fun H X Q hf hq hxx => ?_
  obtain ⟨F1, F2, F3, F4, F5, F6, F7, F8⟩ := jF_of (X := H) h hl hf
  simp only [↓reduceIte, s_S_text_147, s_S_text_149, s_S_text_150, s_S_text_151, not_false_eq_true, Nat.reduceLT, Nat.reduceAdd, true_and, and_true, if_true, if_false, ite_true, ite_false, xnb_0, xnb_1, xnb_b, xk_v, xk_n, xf_of F1, xll_10, xlg_10_0, xlg_10_1, xlg_10_2, xlg_10_3, xlg_10_4, xlg_10_5, xlg_10_6, xlg_10_7, xlg_10_8, xIl_of (F8 i hi2), xIf_of (F8 i hi2), ic_0, ic_1, v2_0, v2_1, uf_0, uf_1, hx, hq, hxx]
theorem tu_5 (h : jOK ad ro nk nc nn lo hi) (hl : hi ≤ l2) : rnT E (d + 6) m_S_text l2 q (jH ad ro b s nk nc nn ru H a t) (154, [some (.ref (ad 1)), some (.ref q), some (.ref (ad 3)), some (.int (nI nc)), some (.int (nI i)), some (.ref (ad (30 + i)))], [.ref q]) (117, [some (.ref (ad 1)), some (.ref q), some (.ref (ad 3)), some (.int (nI nc)), some (.int (nI (i + 1))), some (.ref (ad (30 + i)))], []) (txL 22) 0 := by
  have hnk := h.1
  have hnc := h.2.1
  have hnn := h.2.2.1
  refine rn_c (i := 22) (by omega) fun H X Q hf hq hxx => ?_
  obtain ⟨F1, F2, F3, F4, F5, F6, F7, F8⟩ := jF_of (X := H) h hl hf
  simp only [↓reduceIte, s_S_text_154, s_S_text_156, s_S_text_159, s_S_text_160, s_S_text_163, not_false_eq_true, Nat.reduceLT, Nat.reduceAdd, true_and, and_true, if_true, if_false, ite_true, ite_false, xnb_0, xnb_1, xnb_b, xk_v, xk_n, xf_of F1, xll_10, xlg_10_0, xlg_10_1, xlg_10_2, xlg_10_3, xlg_10_4, xlg_10_5, xlg_10_6, xlg_10_7, xlg_10_8, show nI i + 1 = nI (i + 1) from nI_ad i 1, hq, hxx]
theorem tu_6 (h : jOK ad ro nk nc nn lo hi) (hl : hi ≤ l2) : rnT E (d + 6) m_S_text l2 q (jH ad ro b s nk nc nn ru H a t) (117, [some (.ref (ad 1)), some (.ref q), some (.ref (ad 3)), some (.int (nI nc)), some (.int (nI nc)), j5], []) (168, [some (.ref (ad 1)), some (.ref q), some (.int 0), some (.int (nI nc)), some (.int (nI nc)), j5], []) [] 0 := by
  have hnk := h.1
  have hnc := h.2.1
  have hnn := h.2.2.1
  refine rn_0 fun H Q hf hq => ?_
  obtain ⟨F1, F2, F3, F4, F5, F6, F7, F8⟩ := jF_of (X := H) h hl hf
  simp only [↓reduceIte, s_S_text_117, s_S_text_119, s_S_text_120, s_S_text_123, s_S_text_124, s_S_text_126, s_S_text_127, s_S_text_129, s_S_text_130, s_S_text_132, s_S_text_135, s_S_text_137, s_S_text_138, s_S_text_139, s_S_text_142, s_S_text_144, s_S_text_147, s_S_text_149, s_S_text_150, s_S_text_151, s_S_text_154, s_S_text_156, s_S_text_159, s_S_text_160, s_S_text_163, s_S_text_166, s_S_text_167, not_false_eq_true, Nat.reduceLT, Nat.reduceAdd, true_and, and_true, if_true, if_false, ite_true, ite_false, xnb_0, xnb_1, xnb_b, xk_v, xk_n, xf_of F1, xll_10, xlg_10_0, xlg_10_1, xlg_10_2, xlg_10_3, xlg_10_4, xlg_10_5, xlg_10_6, xlg_10_7, xlg_10_8, nge (Nat.le_refl nc) (by omega), hq]
theorem tc_1 (h : jOK ad ro nk nc nn lo hi) (hl : hi ≤ l2) (hc : c < nn) : rnT E (d + 6) m_S_text l2 q (jH ad ro b s nk nc nn ru H a t) (168, [some (.ref (ad 1)), some (.ref q), some (.int (nI c)), some (.int (nI nc)), some (.int (nI nc)), j5], []) (183, [some (.ref (ad 1)), some (.ref q), some (.int (nI c)), some (.int (nI nc)), some (.int (nI nc)), j5], [.ref q]) (txL 28) 0 := by
  have hnk := h.1
  have hnc := h.2.1
  have hnn := h.2.2.1
  refine rn_c (i := 28) (by omega) fun H X Q hf hq hxx => ?_
  obtain ⟨F1, F2, F3, F4, F5, F6, F7, F8⟩ := jF_of (X := H) h hl hf
  simp only [↓reduceIte, s_S_text_168, s_S_text_169, s_S_text_170, s_S_text_173, s_S_text_174, s_S_text_177, s_S_text_178, s_S_text_180, not_false_eq_true, Nat.reduceLT, Nat.reduceAdd, true_and, and_true, if_true, if_false, ite_true, ite_false, xnb_0, xnb_1, xnb_b, xk_v, xk_n, xf_of F1, xll_10, xlg_10_0, xlg_10_1, xlg_10_2, xlg_10_3, xlg_10_4, xlg_10_5, xlg_10_6, xlg_10_7, xlg_10_8, xln_A F4, Option.isSome_some, Option.getD_some, (xA_of F4).1, (xA_of F4).2.1, nvp hc (by omega), ncl (show c < 2147483648 by omega), if_pos hc, xrf_s, xIl_of (F7 c hc), xIf_of (F7 c hc), ic_0, ic_1, ic_2, v9_0, v9_1, v9_2, cf_0, cf_1, cf_2, nlt hc (by omega), hq, hxx]
theorem tc_2 (h : jOK ad ro nk nc nn lo hi) (hl : hi ≤ l2) (hc : c < nn) : rnT E (d + 6) m_S_text l2 q (jH ad ro b s nk nc nn ru H a t) (183, [some (.ref (ad 1)), some (.ref q), some (.int (nI c)), some (.int (nI nc)), some (.int (nI nc)), j5], [.ref q]) (191, [some (.ref (ad 1)), some (.ref q), some (.int (nI c)), some (.int (nI nc)), some (.int (nI nc)), j5], [.ref q]) [(97 + c)] 0 := by
  have hnk := h.1
  have hnc := h.2.1
  have hnn := h.2.2.1
  refine rn_h (n := (97 + c)) (by omega) fun H X Q hf hq hxx => ?_
  obtain ⟨F1, F2, F3, F4, F5, F6, F7, F8⟩ := jF_of (X := H) h hl hf
  simp only [↓reduceIte, s_S_text_183, s_S_text_185, s_S_text_186, s_S_text_187, s_S_text_188, not_false_eq_true, Nat.reduceLT, Nat.reduceAdd, true_and, and_true, if_true, if_false, ite_true, ite_false, xnb_0, xnb_1, xnb_b, xk_v, xk_n, xf_of F1, xll_10, xlg_10_0, xlg_10_1, xlg_10_2, xlg_10_3, xlg_10_4, xlg_10_5, xlg_10_6, xlg_10_7, xlg_10_8, show (97 : Int32) + nI c = nI (97 + c) from nI_ad 97 c, show ((nI (97 + c)).toUInt32 % 65536).toInt32 = nI (97 + c) from i2c_c hc hnn, hq, hxx]
theorem tc_3 (h : jOK ad ro nk nc nn lo hi) (hl : hi ≤ l2) : rnT E (d + 6) m_S_text l2 q (jH ad ro b s nk nc nn ru H a t) (191, [some (.ref (ad 1)), some (.ref q), some (.int (nI c)), some (.int (nI nc)), some (.int (nI nc)), j5], [.ref q]) (196, [some (.ref (ad 1)), some (.ref q), some (.int (nI c)), some (.int (nI nc)), some (.int (nI nc)), j5], [.ref q]) (txL 29) 0 := by
  have hnk := h.1
  have hnc := h.2.1
  have hnn := h.2.2.1
  refine rn_c (i := 29) (by omega) fun H X Q hf hq hxx => ?_
  obtain ⟨F1, F2, F3, F4, F5, F6, F7, F8⟩ := jF_of (X := H) h hl hf
  simp only [↓reduceIte, s_S_text_191, s_S_text_193, not_false_eq_true, Nat.reduceLT, Nat.reduceAdd, true_and, and_true, if_true, if_false, ite_true, ite_false, xnb_0, xnb_1, xnb_b, xk_v, xk_n, xf_of F1, xll_10, xlg_10_0, xlg_10_1, xlg_10_2, xlg_10_3, xlg_10_4, xlg_10_5, xlg_10_6, xlg_10_7, xlg_10_8, hq, hxx]
theorem tc_4 (h : jOK ad ro nk nc nn lo hi) (hl : hi ≤ l2) (hc : c < nn) (hx : b 7 c = nI x) (hx2 : x ≤ 9999) : rnT E (d + 6) m_S_text l2 q (jH ad ro b s nk nc nn ru H a t) (196, [some (.ref (ad 1)), some (.ref q), some (.int (nI c)), some (.int (nI nc)), some (.int (nI nc)), j5], [.ref q]) (207, [some (.ref (ad 1)), some (.ref q), some (.int (nI c)), some (.int (nI nc)), some (.int (nI nc)), j5], [.ref q]) (dcL x) 0 := by
  have hnk := h.1
  have hnc := h.2.1
  have hnn := h.2.2.1
  refine rn_i (n := x) (by omega) fun H X Q hf hq hxx => ?_
  obtain ⟨F1, F2, F3, F4, F5, F6, F7, F8⟩ := jF_of (X := H) h hl hf
  simp only [↓reduceIte, s_S_text_196, s_S_text_197, s_S_text_200, s_S_text_201, s_S_text_202, s_S_text_203, s_S_text_204, not_false_eq_true, Nat.reduceLT, Nat.reduceAdd, true_and, and_true, if_true, if_false, ite_true, ite_false, xnb_0, xnb_1, xnb_b, xk_v, xk_n, xf_of F1, xll_10, xlg_10_0, xlg_10_1, xlg_10_2, xlg_10_3, xlg_10_4, xlg_10_5, xlg_10_6, xlg_10_7, xlg_10_8, xln_A F4, Option.isSome_some, Option.getD_some, (xA_of F4).1, (xA_of F4).2.1, nvp hc (by omega), ncl (show c < 2147483648 by omega), if_pos hc, xrf_s, xIl_of (F7 c hc), xIf_of (F7 c hc), ic_0, ic_1, ic_2, v9_0, v9_1, v9_2, cf_0, cf_1, cf_2, hx, hq, hxx]
theorem tc_5 (h : jOK ad ro nk nc nn lo hi) (hl : hi ≤ l2) : rnT E (d + 6) m_S_text l2 q (jH ad ro b s nk nc nn ru H a t) (207, [some (.ref (ad 1)), some (.ref q), some (.int (nI c)), some (.int (nI nc)), some (.int (nI nc)), j5], [.ref q]) (212, [some (.ref (ad 1)), some (.ref q), some (.int (nI c)), some (.int (nI nc)), some (.int (nI nc)), j5], [.ref q]) (txL 21) 0 := by
  have hnk := h.1
  have hnc := h.2.1
  have hnn := h.2.2.1
  refine rn_c (i := 21) (by omega) fun H X Q hf hq hxx => ?_
  obtain ⟨F1, F2, F3, F4, F5, F6, F7, F8⟩ := jF_of (X := H) h hl hf
  simp only [↓reduceIte, s_S_text_207, s_S_text_209, not_false_eq_true, Nat.reduceLT, Nat.reduceAdd, true_and, and_true, if_true, if_false, ite_true, ite_false, xnb_0, xnb_1, xnb_b, xk_v, xk_n, xf_of F1, xll_10, xlg_10_0, xlg_10_1, xlg_10_2, xlg_10_3, xlg_10_4, xlg_10_5, xlg_10_6, xlg_10_7, xlg_10_8, hq, hxx]
theorem tc_6 (h : jOK ad ro nk nc nn lo hi) (hl : hi ≤ l2) (hc : c < nn) (hx : b 8 c = nI x) (hx2 : x ≤ 9999) : rnT E (d + 6) m_S_text l2 q (jH ad ro b s nk nc nn ru H a t) (212, [some (.ref (ad 1)), some (.ref q), some (.int (nI c)), some (.int (nI nc)), some (.int (nI nc)), j5], [.ref q]) (223, [some (.ref (ad 1)), some (.ref q), some (.int (nI c)), some (.int (nI nc)), some (.int (nI nc)), j5], [.ref q]) (dcL x) 0 := by
  have hnk := h.1
  have hnc := h.2.1
  have hnn := h.2.2.1
  refine rn_i (n := x) (by omega) fun H X Q hf hq hxx => ?_
  obtain ⟨F1, F2, F3, F4, F5, F6, F7, F8⟩ := jF_of (X := H) h hl hf
  simp only [↓reduceIte, s_S_text_212, s_S_text_213, s_S_text_216, s_S_text_217, s_S_text_218, s_S_text_219, s_S_text_220, not_false_eq_true, Nat.reduceLT, Nat.reduceAdd, true_and, and_true, if_true, if_false, ite_true, ite_false, xnb_0, xnb_1, xnb_b, xk_v, xk_n, xf_of F1, xll_10, xlg_10_0, xlg_10_1, xlg_10_2, xlg_10_3, xlg_10_4, xlg_10_5, xlg_10_6, xlg_10_7, xlg_10_8, xln_A F4, Option.isSome_some, Option.getD_some, (xA_of F4).1, (xA_of F4).2.1, nvp hc (by omega), ncl (show c < 2147483648 by omega), if_pos hc, xrf_s, xIl_of (F7 c hc), xIf_of (F7 c hc), ic_0, ic_1, ic_2, v9_0, v9_1, v9_2, cf_0, cf_1, cf_2, hx, hq, hxx]
theorem tc_7 (h : jOK ad ro nk nc nn lo hi) (hl : hi ≤ l2) : rnT E (d + 6) m_S_text l2 q (jH ad ro b s nk nc nn ru H a t) (223, [some (.ref (ad 1)), some (.ref q), some (.int (nI c)), some (.int (nI nc)), some (.int (nI nc)), j5], [.ref q]) (228, [some (.ref (ad 1)), some (.ref q), some (.int (nI c)), some (.int (nI nc)), some (.int (nI nc)), j5], [.ref q]) (txL 30) 0 := by
  have hnk := h.1
  have hnc := h.2.1
  have hnn := h.2.2.1
  refine rn_c (i := 30) (by omega) fun H X Q hf hq hxx => ?_
  obtain ⟨F1, F2, F3, F4, F5, F6, F7, F8⟩ := jF_of (X := H) h hl hf
  simp only [↓reduceIte, s_S_text_223, s_S_text_225, not_false_eq_true, Nat.reduceLT, Nat.reduceAdd, true_and, and_true, if_true, if_false, ite_true, ite_false, xnb_0, xnb_1, xnb_b, xk_v, xk_n, xf_of F1, xll_10, xlg_10_0, xlg_10_1, xlg_10_2, xlg_10_3, xlg_10_4, xlg_10_5, xlg_10_6, xlg_10_7, xlg_10_8, hq, hxx]
theorem tc_8 (h : jOK ad ro nk nc nn lo hi) (hl : hi ≤ l2) (hc : c < nn) (hx : b 9 c = nI x) (hx2 : x ≤ 9999) : rnT E (d + 6) m_S_text l2 q (jH ad ro b s nk nc nn ru H a t) (228, [some (.ref (ad 1)), some (.ref q), some (.int (nI c)), some (.int (nI nc)), some (.int (nI nc)), j5], [.ref q]) (239, [some (.ref (ad 1)), some (.ref q), some (.int (nI c)), some (.int (nI nc)), some (.int (nI nc)), j5], [.ref q]) (dcL x) 0 := by
  have hnk := h.1
  have hnc := h.2.1
  have hnn := h.2.2.1
  refine rn_i (n := x) (by omega) fun H X Q hf hq hxx => ?_
  obtain ⟨F1, F2, F3, F4, F5, F6, F7, F8⟩ := jF_of (X := H) h hl hf
  simp only [↓reduceIte, s_S_text_228, s_S_text_229, s_S_text_232, s_S_text_233, s_S_text_234, s_S_text_235, s_S_text_236, not_false_eq_true, Nat.reduceLT, Nat.reduceAdd, true_and, and_true, if_true, if_false, ite_true, ite_false, xnb_0, xnb_1, xnb_b, xk_v, xk_n, xf_of F1, xll_10, xlg_10_0, xlg_10_1, xlg_10_2, xlg_10_3, xlg_10_4, xlg_10_5, xlg_10_6, xlg_10_7, xlg_10_8, xln_A F4, Option.isSome_some, Option.getD_some, (xA_of F4).1, (xA_of F4).2.1, nvp hc (by omega), ncl (show c < 2147483648 by omega), if_pos hc, xrf_s, xIl_of (F7 c hc), xIf_of (F7 c hc), ic_0, ic_1, ic_2, v9_0, v9_1, v9_2, cf_0, cf_1, cf_2, hx, hq, hxx]
theorem tc_9 (h : jOK ad ro nk nc nn lo hi) (hl : hi ≤ l2) : rnT E (d + 6) m_S_text l2 q (jH ad ro b s nk nc nn ru H a t) (239, [some (.ref (ad 1)), some (.ref q), some (.int (nI c)), some (.int (nI nc)), some (.int (nI nc)), j5], [.ref q]) (245, [some (.ref (ad 1)), some (.ref q), some (.int (nI c)), some (.int (nI nc)), some (.int (nI nc)), j5], []) (txL 31) 0 := by
  have hnk := h.1
  have hnc := h.2.1
  have hnn := h.2.2.1
  refine rn_c (i := 31) (by omega) fun H X Q hf hq hxx => ?_
  obtain ⟨F1, F2, F3, F4, F5, F6, F7, F8⟩ := jF_of (X := H) h hl hf
  simp only [↓reduceIte, s_S_text_239, s_S_text_241, s_S_text_244, not_false_eq_true, Nat.reduceLT, Nat.reduceAdd, true_and, and_true, if_true, if_false, ite_true, ite_false, xnb_0, xnb_1, xnb_b, xk_v, xk_n, xf_of F1, xll_10, xlg_10_0, xlg_10_1, xlg_10_2, xlg_10_3, xlg_10_4, xlg_10_5, xlg_10_6, xlg_10_7, xlg_10_8, hq, hxx]
theorem tc_a (h : jOK ad ro nk nc nn lo hi) (hl : hi ≤ l2) (hc : c < nn) (hp : ru c = some p) (hpl : p < l2) (hpc : xcl (jH ad ro b s nk nc nn ru H a t) p = 9) {W : List Nat} (hw : wSp E (d + 6) l2 q (jH ad ro b s nk nc nn ru H a t) p 1 W u) : rnT E (d + 6) m_S_text l2 q (jH ad ro b s nk nc nn ru H a t) (245, [some (.ref (ad 1)), some (.ref q), some (.int (nI c)), some (.int (nI nc)), some (.int (nI nc)), j5], []) (256, [some (.ref (ad 1)), some (.ref q), some (.int (nI c)), some (.int (nI nc)), some (.int (nI nc)), j5], []) W u := by
  have hnk := h.1
  have hnc := h.2.1
  have hnn := h.2.2.1
  refine rn_k hw fun H X Q hf hq hxx => ?_
  obtain ⟨F1, F2, F3, F4, F5, F6, F7, F8⟩ := jF_of (X := H) h hl hf
  have hpc2 : xcl H p = 9 := by rw [← hpc]; unfold xcl; rw [hf p hpl]
  simp only [↓reduceIte, s_S_text_245, s_S_text_246, s_S_text_249, s_S_text_250, s_S_text_251, s_S_text_252, s_S_text_253, not_false_eq_true, Nat.reduceLT, Nat.reduceAdd, true_and, and_true, if_true, if_false, ite_true, ite_false, xnb_0, xnb_1, xnb_b, xk_v, xk_n, xf_of F1, xll_10, xlg_10_0, xlg_10_1, xlg_10_2, xlg_10_3, xlg_10_4, xlg_10_5, xlg_10_6, xlg_10_7, xlg_10_8, (xR_of F5).1, (xR_of F5).2.1, nvp hc (by omega), ncl (show c < 2147483648 by omega), hp, xrf_s, hpc2, hq, hxx]
theorem tc_b (h : jOK ad ro nk nc nn lo hi) (hl : hi ≤ l2) : rnT E (d + 6) m_S_text l2 q (jH ad ro b s nk nc nn ru H a t) (256, [some (.ref (ad 1)), some (.ref q), some (.int (nI c)), some (.int (nI nc)), some (.int (nI nc)), j5], []) (168, [some (.ref (ad 1)), some (.ref q), some (.int (nI (c + 1))), some (.int (nI nc)), some (.int (nI nc)), j5], []) (txL 22) 0 := by
  have hnk := h.1
  have hnc := h.2.1
  have hnn := h.2.2.1
  refine rn_c (i := 22) (by omega) fun H X Q hf hq hxx => ?_
  obtain ⟨F1, F2, F3, F4, F5, F6, F7, F8⟩ := jF_of (X := H) h hl hf
  simp only [↓reduceIte, s_S_text_256, s_S_text_257, s_S_text_259, s_S_text_262, s_S_text_263, s_S_text_266, not_false_eq_true, Nat.reduceLT, Nat.reduceAdd, true_and, and_true, if_true, if_false, ite_true, ite_false, xnb_0, xnb_1, xnb_b, xk_v, xk_n, xf_of F1, xll_10, xlg_10_0, xlg_10_1, xlg_10_2, xlg_10_3, xlg_10_4, xlg_10_5, xlg_10_6, xlg_10_7, xlg_10_8, show nI c + 1 = nI (c + 1) from nI_ad c 1, hq, hxx]
end STEXT
