/-! ===== the model: a rule's number ===== -/
section MRULE
variable {E : xE} {d : Nat} {Q : xR → Prop} {H : xH} {K : Nat} {g : Nat → Nat → Int32} {q : Nat → Int32} {th sz ea : Int32} {tp kp wc ms : Nat → Int32} {b a : Nat → Nat → Int32} {s t : Nat → Int32}
/-- how one step of the class's rule lies in the model's orders -/
def tau (k v x y : Int32) : Prop :=
  (k = 2 ∧ x = 300 ∧ y = v) ∨ (∃ i, i < 10 ∧ k = nI (116 + i) ∧ x = 301 ∧ y = nI i) ∨ (k = 4 ∧ x = 302) ∨ (k = 113 ∧ x = 213) ∨ (k = 108 ∧ x = 303) ∨
  (k = 111 ∧ x = 211) ∨ (k = 112 ∧ x = 212) ∨ (k = 114 ∧ x = 214) ∨ (k = 115 ∧ x = 215) ∨ (k = 37 ∧ x = 37) ∨ (k = 42 ∧ x = 42) ∨ (k = 43 ∧ x = 43) ∨ (k = 45 ∧ x = 45) ∨ (k = 47 ∧ x = 47) ∨ (k = 60 ∧ x = 60) ∨ (k = 61 ∧ x = 61) ∨ (k = 62 ∧ x = 62)
/-- the stack's height behind a step -/
def hst (k : Int32) (h : Nat) : Nat := if k = 2 ∨ (¬ k < 116 ∧ ¬ 125 < k) then h + 1 else if k = 4 ∨ k = 113 then h else if k = 108 then h - 2 else h - 1
/-- the least height that a step needs -/
def hnd (k : Int32) : Nat := if k = 2 ∨ (¬ k < 116 ∧ ¬ 125 < k) then 0 else if k = 4 ∨ k = 113 then 1 else if k = 108 then 3 else 2
/-- m steps from step i on, at height h, are a whole rule's rest -/
def hgt (kd : Nat → Int32) : Nat → Nat → Nat → Prop
  | _, 0, h => h = 1
  | i, m + 1, h => hnd (kd i) ≤ h ∧ h < 400 ∧ hgt kd (i + 1) m (hst (kd i) h)
theorem ps_is {p : stk} {v : Int32} (h : p.2 < 400) : pshR p v = (upd p.1 p.2 v, p.2 + 1) := if_pos h
theorem po_is {p : stk} (h : 1 ≤ p.2) : popR p = (p.1, p.2 - 1) ∧ popV p = p.1 (p.2 - 1) := ⟨if_neg (by omega), if_neg (by omega)⟩
theorem rs_2 {v : Int32} {p : stk} (h : p.2 < 400) : rst ms 2 v p = (upd p.1 p.2 v, p.2 + 1) := (if_pos rfl).trans (ps_is h)
theorem rs_1 {k v : Int32} {p : stk} (hk : k = 4 ∨ k = 113) (h1 : 1 ≤ p.2) (h : p.2 < 400) : rst ms k v p = (upd p.1 (p.2 - 1) (if k = 4 then -p.1 (p.2 - 1) else xb (p.1 (p.2 - 1) = 0)), p.2) := by
  have hp := po_is h1
  have e : ∀ w, pshR (popR p) w = (upd p.1 (p.2 - 1) w, p.2) := by
    intro w
    rw [hp.1, ps_is (p := (p.1, p.2 - 1)) (show p.2 - 1 < 400 by omega)]
    show (upd p.1 (p.2 - 1) w, p.2 - 1 + 1) = _
    rw [show p.2 - 1 + 1 = p.2 by omega]
  rcases hk with r | r <;> subst r
  · show pshR (popR p) (-popV p) = _
    rw [e, hp.2, if_pos rfl]
  · show pshR (popR p) (xb (popV p = 0)) = _
    rw [e, hp.2, if_neg (by decide)]
theorem rs_3 {v : Int32} {p : stk} (h3 : 3 ≤ p.2) (h : p.2 < 400) : rst ms 108 v p = (upd p.1 (p.2 - 3) (if p.1 (p.2 - 3) = 0 then p.1 (p.2 - 1) else p.1 (p.2 - 2)), p.2 - 2) := by
  obtain ⟨f, n⟩ := p
  have h3' : 3 ≤ n := h3
  have a1 := po_is (p := (f, n)) (show 1 ≤ n by omega)
  have a2 := po_is (p := (f, n - 1)) (show 1 ≤ n - 1 by omega)
  have a3 := po_is (p := (f, n - 1 - 1)) (show 1 ≤ n - 1 - 1 by omega)
  show pshR (popR (popR (popR (f, n)))) (if popV (popR (popR (f, n))) = 0 then popV (f, n) else popV (popR (f, n))) = _
  rw [a1.1, a2.1, a3.1, a1.2, a2.2, a3.2]
  have hn : n < 400 := h
  rw [ps_is (p := (f, n - 1 - 1 - 1)) (show n - 1 - 1 - 1 < 400 by omega)]
  show (upd f (n - 1 - 1 - 1) (if f (n - 1 - 1 - 1) = 0 then f (n - 1) else f (n - 1 - 1)), n - 1 - 1 - 1 + 1) = (upd f (n - 3) (if f (n - 3) = 0 then f (n - 1) else f (n - 2)), n - 2)
  rw [show n - 1 - 1 - 1 + 1 = n - 2 by omega, show n - 1 - 1 - 1 = n - 3 by omega, show n - 1 - 1 = n - 2 by omega]
theorem rs_j {k v : Int32} {p : stk} (h2 : 2 ≤ p.2) (h : p.2 < 400) (e : rst ms k v p = pshR (popR (popR p)) (joC k (popV (popR p)) (popV p))) : rst ms k v p = (upd p.1 (p.2 - 2) (joC k (p.1 (p.2 - 2)) (p.1 (p.2 - 1))), p.2 - 1) := by
  obtain ⟨f, n⟩ := p
  have h2' : 2 ≤ n := h2
  have hn : n < 400 := h
  have a1 := po_is (p := (f, n)) (show 1 ≤ n by omega)
  have a2 := po_is (p := (f, n - 1)) (show 1 ≤ n - 1 by omega)
  rw [e, a1.1, a2.1, a1.2, a2.2, ps_is (p := (f, n - 1 - 1)) (show n - 1 - 1 < 400 by omega)]
  show (upd f (n - 1 - 1) (joC k (f (n - 1 - 1)) (f (n - 1))), n - 1 - 1 + 1) = (upd f (n - 2) (joC k (f (n - 2)) (f (n - 1))), n - 1)
  rw [show n - 1 - 1 + 1 = n - 1 by omega, show n - 1 - 1 = n - 2 by omega]

theorem rst_j {k v : Int32} {p : stk} (q1 : ¬ k = 2) (q2 : ¬ (¬ k < 116 ∧ ¬ 125 < k)) (q3 : ¬ k = 4) (q4 : ¬ k = 113) (q5 : ¬ k = 108) : rst ms k v p = pshR (popR (popR p)) (joC k (popV (popR p)) (popV p)) := (if_neg q1).trans ((if_neg q2).trans ((if_neg q3).trans ((if_neg q4).trans (if_neg q5))))
theorem nI_a1 {i : Nat} (h : 1 ≤ i) (hi : i < 2147483648) : nI i + (-1) = nI (i - 1) := by
  rw [← nI_m i h hi, Int32.sub_eq_add_neg]
theorem nI_a2 {i : Nat} (h : 2 ≤ i) (hi : i < 2147483648) : nI i + (-2) = nI (i - 2) := by
  have e : (-2 : Int32) = (-1) + (-1) := by decide
  rw [e, ← Int32.add_assoc, nI_a1 (by omega) hi, nI_a1 (by omega) (by omega)]
  rfl
theorem rs_ask {n : Nat} {v : Int32} {p : stk} (hn : n < 10) (h : p.2 < 400) : rst ms (nI (116 + n)) v p = (upd p.1 p.2 (ms n), p.2 + 1) := by
  have w : n = 0 ∨ n = 1 ∨ n = 2 ∨ n = 3 ∨ n = 4 ∨ n = 5 ∨ n = 6 ∨ n = 7 ∨ n = 8 ∨ n = 9 := by omega
  rcases w with w | w | w | w | w | w | w | w | w | w <;> subst w <;> exact ((if_neg (by decide)).trans (if_pos (by decide))).trans (ps_is h)
theorem me_n (hM : kM H K g q) (hK : mK K) (nk nn : Nat) (rs re : Nat → Nat) (hR : kRk b s g q nk) (hC : kRc b s g q nn rs re) (ha : bOK a nk) (c : Nat) (hc : c < nn) (h0 : -1 < smeC a b t s nk c (nI 0)) (sk : Nat → Int32) (n : Nat) (hn : n < 10) :
    xcall E xprog (d + 5) 171 [.ref 63, .int (nI c), .int (nI n)] (mH H K th sz ea tp (nwO nn a t) kp wc sk) Q = Q (.inl (some (.int (tms a b t s nk c ms n))), mH H K th sz ea tp (nwO nn a t) kp wc sk) := by
  have w : n = 0 ∨ n = 1 ∨ n = 2 ∨ n = 3 ∨ n = 4 ∨ n = 5 ∨ n = 6 ∨ n = 7 ∨ n = 8 ∨ n = 9 := by omega
  rcases w with w | w | w | w | w | w | w | w | w | w <;> subst w
  · exact me_0 hM hK nk nn rs re hR hC ha c hc h0
  · exact me_1 hM hK nk nn rs re hR hC ha c hc h0
  · exact me_2 hM hK nk nn rs re hR hC ha c hc h0
  · exact me_3 hM hK nk nn rs re hR hC ha c hc h0
  · exact me_4 hM hK nk nn rs re hR hC ha c hc h0
  · exact me_5 hM hK nk nn rs re hR hC ha c hc h0
  · exact me_6 hM hK nk nn rs re hR hC ha c hc h0
  · exact me_7 hM hK nk nn rs re hR hC ha c hc h0
  · exact me_8 hM hK nk nn rs re hR hC ha c hc h0
  · exact me_9 hM hK nk nn rs re hR hC ha c hc h0
theorem kx_300_300 : ((300 : Int32) = 300) = True := by decide
theorem kx_300_301 : ((300 : Int32) = 301) = False := by decide
theorem kx_300_302 : ((300 : Int32) = 302) = False := by decide
theorem kx_300_213 : ((300 : Int32) = 213) = False := by decide
theorem kx_300_303 : ((300 : Int32) = 303) = False := by decide
theorem kx_301_300 : ((301 : Int32) = 300) = False := by decide
theorem kx_301_301 : ((301 : Int32) = 301) = True := by decide
theorem kx_301_302 : ((301 : Int32) = 302) = False := by decide
theorem kx_301_213 : ((301 : Int32) = 213) = False := by decide
theorem kx_301_303 : ((301 : Int32) = 303) = False := by decide
theorem kx_302_300 : ((302 : Int32) = 300) = False := by decide
theorem kx_302_301 : ((302 : Int32) = 301) = False := by decide
theorem kx_302_302 : ((302 : Int32) = 302) = True := by decide
theorem kx_302_213 : ((302 : Int32) = 213) = False := by decide
theorem kx_302_303 : ((302 : Int32) = 303) = False := by decide
theorem kx_213_300 : ((213 : Int32) = 300) = False := by decide
theorem kx_213_301 : ((213 : Int32) = 301) = False := by decide
theorem kx_213_302 : ((213 : Int32) = 302) = False := by decide
theorem kx_213_213 : ((213 : Int32) = 213) = True := by decide
theorem kx_213_303 : ((213 : Int32) = 303) = False := by decide
theorem kx_303_300 : ((303 : Int32) = 300) = False := by decide
theorem kx_303_301 : ((303 : Int32) = 301) = False := by decide
theorem kx_303_302 : ((303 : Int32) = 302) = False := by decide
theorem kx_303_213 : ((303 : Int32) = 213) = False := by decide
theorem kx_303_303 : ((303 : Int32) = 303) = True := by decide
theorem kx_211_300 : ((211 : Int32) = 300) = False := by decide
theorem kx_211_301 : ((211 : Int32) = 301) = False := by decide
theorem kx_211_302 : ((211 : Int32) = 302) = False := by decide
theorem kx_211_213 : ((211 : Int32) = 213) = False := by decide
theorem kx_211_303 : ((211 : Int32) = 303) = False := by decide
theorem kx_212_300 : ((212 : Int32) = 300) = False := by decide
theorem kx_212_301 : ((212 : Int32) = 301) = False := by decide
theorem kx_212_302 : ((212 : Int32) = 302) = False := by decide
theorem kx_212_213 : ((212 : Int32) = 213) = False := by decide
theorem kx_212_303 : ((212 : Int32) = 303) = False := by decide
theorem kx_214_300 : ((214 : Int32) = 300) = False := by decide
theorem kx_214_301 : ((214 : Int32) = 301) = False := by decide
theorem kx_214_302 : ((214 : Int32) = 302) = False := by decide
theorem kx_214_213 : ((214 : Int32) = 213) = False := by decide
theorem kx_214_303 : ((214 : Int32) = 303) = False := by decide
theorem kx_215_300 : ((215 : Int32) = 300) = False := by decide
theorem kx_215_301 : ((215 : Int32) = 301) = False := by decide
theorem kx_215_302 : ((215 : Int32) = 302) = False := by decide
theorem kx_215_213 : ((215 : Int32) = 213) = False := by decide
theorem kx_215_303 : ((215 : Int32) = 303) = False := by decide
theorem kx_37_300 : ((37 : Int32) = 300) = False := by decide
theorem kx_37_301 : ((37 : Int32) = 301) = False := by decide
theorem kx_37_302 : ((37 : Int32) = 302) = False := by decide
theorem kx_37_213 : ((37 : Int32) = 213) = False := by decide
theorem kx_37_303 : ((37 : Int32) = 303) = False := by decide
theorem kx_42_300 : ((42 : Int32) = 300) = False := by decide
theorem kx_42_301 : ((42 : Int32) = 301) = False := by decide
theorem kx_42_302 : ((42 : Int32) = 302) = False := by decide
theorem kx_42_213 : ((42 : Int32) = 213) = False := by decide
theorem kx_42_303 : ((42 : Int32) = 303) = False := by decide
theorem kx_43_300 : ((43 : Int32) = 300) = False := by decide
theorem kx_43_301 : ((43 : Int32) = 301) = False := by decide
theorem kx_43_302 : ((43 : Int32) = 302) = False := by decide
theorem kx_43_213 : ((43 : Int32) = 213) = False := by decide
theorem kx_43_303 : ((43 : Int32) = 303) = False := by decide
theorem kx_45_300 : ((45 : Int32) = 300) = False := by decide
theorem kx_45_301 : ((45 : Int32) = 301) = False := by decide
theorem kx_45_302 : ((45 : Int32) = 302) = False := by decide
theorem kx_45_213 : ((45 : Int32) = 213) = False := by decide
theorem kx_45_303 : ((45 : Int32) = 303) = False := by decide
theorem kx_47_300 : ((47 : Int32) = 300) = False := by decide
theorem kx_47_301 : ((47 : Int32) = 301) = False := by decide
theorem kx_47_302 : ((47 : Int32) = 302) = False := by decide
theorem kx_47_213 : ((47 : Int32) = 213) = False := by decide
theorem kx_47_303 : ((47 : Int32) = 303) = False := by decide
theorem kx_60_300 : ((60 : Int32) = 300) = False := by decide
theorem kx_60_301 : ((60 : Int32) = 301) = False := by decide
theorem kx_60_302 : ((60 : Int32) = 302) = False := by decide
theorem kx_60_213 : ((60 : Int32) = 213) = False := by decide
theorem kx_60_303 : ((60 : Int32) = 303) = False := by decide
theorem kx_61_300 : ((61 : Int32) = 300) = False := by decide
theorem kx_61_301 : ((61 : Int32) = 301) = False := by decide
theorem kx_61_302 : ((61 : Int32) = 302) = False := by decide
theorem kx_61_213 : ((61 : Int32) = 213) = False := by decide
theorem kx_61_303 : ((61 : Int32) = 303) = False := by decide
theorem kx_62_300 : ((62 : Int32) = 300) = False := by decide
theorem kx_62_301 : ((62 : Int32) = 301) = False := by decide
theorem kx_62_302 : ((62 : Int32) = 302) = False := by decide
theorem kx_62_213 : ((62 : Int32) = 213) = False := by decide
theorem kx_62_303 : ((62 : Int32) = 303) = False := by decide
theorem l_M_rule_h (hM : kM H K g q) (hK : mK K) (nn e c i : Nat) (p : stk) (hc : c < 6) (he : e ≤ 400) (hi : i < e) (h6 : g 6 (c + 1) = nI e) (j4 j5 j6 : Option Value) :
    xr E d m_M_rule Q (12, [some (.ref 63), some (.int (nI c)), some (.int (nI p.2)), some (.int (nI i)), j4, j5, j6], [], (mH H K th sz ea tp (nwO nn a t) kp wc p.1)) = xr E d m_M_rule Q (55, [some (.ref 63), some (.int (nI c)), some (.int (nI p.2)), some (.int (nI i)), some (.int (g 7 (2 * i))), some (.int (g 7 (2 * i + 1))), j6], [], (mH H K th sz ea tp (nwO nn a t) kp wc p.1)) := by
  rw [s_M_rule_12]
  simp only [s_M_rule_13, s_M_rule_14, s_M_rule_17, s_M_rule_20, s_M_rule_21, s_M_rule_22, s_M_rule_23, s_M_rule_24, s_M_rule_27, s_M_rule_28, s_M_rule_31, s_M_rule_34, s_M_rule_35, s_M_rule_36, s_M_rule_37, s_M_rule_38, s_M_rule_40, s_M_rule_41, s_M_rule_44, s_M_rule_47, s_M_rule_48, s_M_rule_49, s_M_rule_50, s_M_rule_51, s_M_rule_52, s_M_rule_53, mF, mC, ml_64, mf_64, mw_63, mw_64, ml_74, mf_74, mw_74, ml_75, mf_75, mw_75, ml_76, mf_76, mw_76, ml_77, mf_77, mw_77, xll_11, xlg_11_0, xlg_11_1, xlg_11_2, xlg_11_3, xlg_11_4, xlg_11_5, xlg_11_6, xlg_11_7, xlg_11_8, xls_11_0, xls_11_1, xls_11_2, xls_11_3, xls_11_4, xls_11_5, xls_11_6, xls_11_7, xls_11_8, nF hM hK, nC hM hK, nl_0 hM hK, nl_1 hM hK, nl_2 hM hK, nl_3 hM hK, nl_4 hM hK, nl_5 hM hK, nl_6 hM hK, nl_7 hM hK, nf_0 hM hK, nf_1 hM hK, nf_2 hM hK, nf_3 hM hK, nf_4 hM hK, nf_5 hM hK, nf_6 hM hK, nf_7 hM hK, xll_9, xlg_9_0, xlg_9_1, xlg_9_2, xlg_9_3, xlg_9_4, xlg_9_5, xlg_9_6, xlg_9_7, xlg_9_8, xlg_9_9, xlg_9_10, xlg_9_11, xlg_9_12, xlg_9_13, not_false_eq_true, Nat.reduceLT, Nat.reduceAdd, true_and, and_true, if_true, if_false, ite_true, ite_false, xnb_0, xnb_1, xnb_b, xk_v, xk_n, nvp (show c < 7 by omega) (by omega), ncl (show c < 2147483648 by omega), nI_1, nvp (show c + 1 < 8 by omega) (by omega), ncl (show c + 1 < 2147483648 by omega), h6, nlt (show i < e by omega) (by omega), show (2 : Int32) * nI i = nI (2 * i) from nI_mu 2 i, nvp (show 2 * i < 800 by omega) (by omega), ncl (show 2 * i < 2147483648 by omega), nvp (show 2 * i + 1 < 800 by omega) (by omega), ncl (show 2 * i + 1 < 2147483648 by omega)]
theorem l_M_rule_e (hM : kM H K g q) (hK : mK K) (nn e c : Nat) (p : stk) (hc : c < 6) (he : e ≤ 400) (h6 : g 6 (c + 1) = nI e) (j4 j5 j6 : Option Value) :
    xr E d m_M_rule Q (12, [some (.ref 63), some (.int (nI c)), some (.int (nI p.2)), some (.int (nI e)), j4, j5, j6], [], (mH H K th sz ea tp (nwO nn a t) kp wc p.1)) = Q (.inl (some (.int (p.1 0))), (mH H K th sz ea tp (nwO nn a t) kp wc p.1)) := by
  rw [s_M_rule_12]
  simp only [s_M_rule_13, s_M_rule_14, s_M_rule_17, s_M_rule_20, s_M_rule_21, s_M_rule_22, s_M_rule_23, s_M_rule_24, s_M_rule_256, s_M_rule_257, s_M_rule_260, s_M_rule_261, s_M_rule_262, mF, mC, ml_64, mf_64, mw_63, mw_64, ml_74, mf_74, mw_74, ml_75, mf_75, mw_75, ml_76, mf_76, mw_76, ml_77, mf_77, mw_77, xll_11, xlg_11_0, xlg_11_1, xlg_11_2, xlg_11_3, xlg_11_4, xlg_11_5, xlg_11_6, xlg_11_7, xlg_11_8, xls_11_0, xls_11_1, xls_11_2, xls_11_3, xls_11_4, xls_11_5, xls_11_6, xls_11_7, xls_11_8, nF hM hK, nC hM hK, nl_0 hM hK, nl_1 hM hK, nl_2 hM hK, nl_3 hM hK, nl_4 hM hK, nl_5 hM hK, nl_6 hM hK, nl_7 hM hK, nf_0 hM hK, nf_1 hM hK, nf_2 hM hK, nf_3 hM hK, nf_4 hM hK, nf_5 hM hK, nf_6 hM hK, nf_7 hM hK, xll_9, xlg_9_0, xlg_9_1, xlg_9_2, xlg_9_3, xlg_9_4, xlg_9_5, xlg_9_6, xlg_9_7, xlg_9_8, xlg_9_9, xlg_9_10, xlg_9_11, xlg_9_12, xlg_9_13, not_false_eq_true, Nat.reduceLT, Nat.reduceAdd, true_and, and_true, if_true, if_false, ite_true, ite_false, xnb_0, xnb_1, xnb_b, xk_v, xk_n, nvp (show c < 7 by omega) (by omega), ncl (show c < 2147483648 by omega), nI_1, nvp (show c + 1 < 8 by omega) (by omega), ncl (show c + 1 < 2147483648 by omega), h6, nge (Nat.le_refl e) (by omega), show vp_in 0 401 = True from nvp (i := 0) (N := 401) (by decide) (by decide), show (0 : Int32).toNatClampNeg = 0 from by decide]
theorem r_push (hK : mK K) (nn c n i : Nat) (f : Nat → Int32) (hn : n < 400)  (y : Int32) (j6 : Option Value) :
    xr E (d + 6) m_M_rule Q (55, [some (.ref 63), some (.int (nI c)), some (.int (nI n)), some (.int (nI i)), some (.int 300), some (.int y), j6], [], (mH H K th sz ea tp (nwO nn a t) kp wc f)) = xr E (d + 6) m_M_rule Q (12, [some (.ref 63), some (.int (nI c)), some (.int (nI (n + 1))), some (.int (nI (i + 1))), some (.int 300), some (.int y), some (.int y)], [], (mH H K th sz ea tp (nwO nn a t) kp wc (upd f n y))) := by
  simp only [s_M_rule_55, s_M_rule_57, s_M_rule_60, s_M_rule_63, s_M_rule_65, s_M_rule_68, s_M_rule_71, s_M_rule_73, s_M_rule_76, s_M_rule_79, s_M_rule_81, s_M_rule_84, s_M_rule_85, s_M_rule_86, s_M_rule_88, s_M_rule_91, s_M_rule_93, s_M_rule_94, s_M_rule_97, s_M_rule_98, s_M_rule_100, s_M_rule_101, s_M_rule_104, s_M_rule_250, s_M_rule_253, mF, mC, ml_64, mf_64, mw_63, mw_64, ml_74, mf_74, mw_74, ml_75, mf_75, mw_75, ml_76, mf_76, mw_76, ml_77, mf_77, mw_77, xll_11, xlg_11_0, xlg_11_1, xlg_11_2, xlg_11_3, xlg_11_4, xlg_11_5, xlg_11_6, xlg_11_7, xlg_11_8, xls_11_0, xls_11_1, xls_11_2, xls_11_3, xls_11_4, xls_11_5, xls_11_6, xls_11_7, xls_11_8, not_false_eq_true, Nat.reduceLT, Nat.reduceAdd, true_and, and_true, if_true, if_false, ite_true, ite_false, xnb_0, xnb_1, xnb_b, xk_v, xk_n, kx_300_300, kx_300_301, kx_300_302, kx_300_213, kx_300_303, nvp (show n < 401 by omega) (by omega), ncl (show n < 2147483648 by omega), nI_1]
theorem r_neg (hK : mK K) (nn c n i : Nat) (f : Nat → Int32) (hn : n < 400) (h1 : 1 ≤ n) (y : Int32) (j6 : Option Value) :
    xr E (d + 6) m_M_rule Q (55, [some (.ref 63), some (.int (nI c)), some (.int (nI n)), some (.int (nI i)), some (.int 302), some (.int y), j6], [], (mH H K th sz ea tp (nwO nn a t) kp wc f)) = xr E (d + 6) m_M_rule Q (12, [some (.ref 63), some (.int (nI c)), some (.int (nI n)), some (.int (nI (i + 1))), some (.int 302), some (.int y), j6], [], (mH H K th sz ea tp (nwO nn a t) kp wc (upd f (n - 1) (-f (n - 1))))) := by
  simp only [s_M_rule_55, s_M_rule_57, s_M_rule_60, s_M_rule_63, s_M_rule_65, s_M_rule_68, s_M_rule_71, s_M_rule_73, s_M_rule_76, s_M_rule_79, s_M_rule_81, s_M_rule_84, s_M_rule_85, s_M_rule_86, s_M_rule_88, s_M_rule_91, s_M_rule_93, s_M_rule_94, s_M_rule_97, s_M_rule_98, s_M_rule_100, s_M_rule_101, s_M_rule_104, s_M_rule_107, s_M_rule_109, s_M_rule_112, s_M_rule_115, s_M_rule_116, s_M_rule_119, s_M_rule_120, s_M_rule_121, s_M_rule_122, s_M_rule_123, s_M_rule_126, s_M_rule_127, s_M_rule_128, s_M_rule_129, s_M_rule_130, s_M_rule_131, s_M_rule_132, s_M_rule_250, s_M_rule_253, mF, mC, ml_64, mf_64, mw_63, mw_64, ml_74, mf_74, mw_74, ml_75, mf_75, mw_75, ml_76, mf_76, mw_76, ml_77, mf_77, mw_77, xll_11, xlg_11_0, xlg_11_1, xlg_11_2, xlg_11_3, xlg_11_4, xlg_11_5, xlg_11_6, xlg_11_7, xlg_11_8, xls_11_0, xls_11_1, xls_11_2, xls_11_3, xls_11_4, xls_11_5, xls_11_6, xls_11_7, xls_11_8, not_false_eq_true, Nat.reduceLT, Nat.reduceAdd, true_and, and_true, if_true, if_false, ite_true, ite_false, xnb_0, xnb_1, xnb_b, xk_v, xk_n, kx_302_300, kx_302_301, kx_302_302, kx_302_213, kx_302_303, nvp (show n < 401 by omega) (by omega), ncl (show n < 2147483648 by omega), nI_m n (by omega) (by omega), nvp (show n - 1 < 401 by omega) (by omega), ncl (show n - 1 < 2147483648 by omega), nI_1]
theorem r_not (hK : mK K) (nn c n i : Nat) (f : Nat → Int32) (hn : n < 400) (h1 : 1 ≤ n) (y : Int32) (j6 : Option Value) :
    xr E (d + 6) m_M_rule Q (55, [some (.ref 63), some (.int (nI c)), some (.int (nI n)), some (.int (nI i)), some (.int 213), some (.int y), j6], [], (mH H K th sz ea tp (nwO nn a t) kp wc f)) = xr E (d + 6) m_M_rule Q (12, [some (.ref 63), some (.int (nI c)), some (.int (nI n)), some (.int (nI (i + 1))), some (.int 213), some (.int y), j6], [], (mH H K th sz ea tp (nwO nn a t) kp wc (upd f (n - 1) (xb (f (n - 1) = 0))))) := by
  simp only [s_M_rule_55, s_M_rule_57, s_M_rule_60, s_M_rule_63, s_M_rule_65, s_M_rule_68, s_M_rule_71, s_M_rule_73, s_M_rule_76, s_M_rule_79, s_M_rule_81, s_M_rule_84, s_M_rule_85, s_M_rule_86, s_M_rule_88, s_M_rule_91, s_M_rule_93, s_M_rule_94, s_M_rule_97, s_M_rule_98, s_M_rule_100, s_M_rule_101, s_M_rule_104, s_M_rule_107, s_M_rule_109, s_M_rule_112, s_M_rule_115, s_M_rule_116, s_M_rule_119, s_M_rule_120, s_M_rule_121, s_M_rule_122, s_M_rule_123, s_M_rule_126, s_M_rule_127, s_M_rule_128, s_M_rule_129, s_M_rule_130, s_M_rule_131, s_M_rule_132, s_M_rule_135, s_M_rule_137, s_M_rule_140, s_M_rule_143, s_M_rule_144, s_M_rule_147, s_M_rule_148, s_M_rule_149, s_M_rule_150, s_M_rule_151, s_M_rule_154, s_M_rule_155, s_M_rule_156, s_M_rule_157, s_M_rule_158, s_M_rule_161, s_M_rule_162, s_M_rule_165, s_M_rule_166, s_M_rule_167, s_M_rule_250, s_M_rule_253, mF, mC, ml_64, mf_64, mw_63, mw_64, ml_74, mf_74, mw_74, ml_75, mf_75, mw_75, ml_76, mf_76, mw_76, ml_77, mf_77, mw_77, xll_11, xlg_11_0, xlg_11_1, xlg_11_2, xlg_11_3, xlg_11_4, xlg_11_5, xlg_11_6, xlg_11_7, xlg_11_8, xls_11_0, xls_11_1, xls_11_2, xls_11_3, xls_11_4, xls_11_5, xls_11_6, xls_11_7, xls_11_8, not_false_eq_true, Nat.reduceLT, Nat.reduceAdd, true_and, and_true, if_true, if_false, ite_true, ite_false, xnb_0, xnb_1, xnb_b, xk_v, xk_n, kx_213_300, kx_213_301, kx_213_302, kx_213_213, kx_213_303, nvp (show n < 401 by omega) (by omega), ncl (show n < 2147483648 by omega), nI_m n (by omega) (by omega), nvp (show n - 1 < 401 by omega) (by omega), ncl (show n - 1 < 2147483648 by omega), nI_1]
  by_cases z : f (n - 1) = 0
  · rw [if_pos z, xb_t z]
  · rw [if_neg z, xb_f z]
theorem r_if (hK : mK K) (nn c n i : Nat) (f : Nat → Int32) (hn : n < 400) (h1 : 3 ≤ n) (y : Int32) (j6 : Option Value) :
    xr E (d + 6) m_M_rule Q (55, [some (.ref 63), some (.int (nI c)), some (.int (nI n)), some (.int (nI i)), some (.int 303), some (.int y), j6], [], (mH H K th sz ea tp (nwO nn a t) kp wc f)) = xr E (d + 6) m_M_rule Q (12, [some (.ref 63), some (.int (nI c)), some (.int (nI (n - 2))), some (.int (nI (i + 1))), some (.int 303), some (.int y), j6], [], (mH H K th sz ea tp (nwO nn a t) kp wc (upd f (n - 3) (if f (n - 3) = 0 then f (n - 1) else f (n - 2))))) := by
  simp only [s_M_rule_55, s_M_rule_57, s_M_rule_60, s_M_rule_63, s_M_rule_65, s_M_rule_68, s_M_rule_71, s_M_rule_73, s_M_rule_76, s_M_rule_79, s_M_rule_81, s_M_rule_84, s_M_rule_85, s_M_rule_86, s_M_rule_88, s_M_rule_91, s_M_rule_93, s_M_rule_94, s_M_rule_97, s_M_rule_98, s_M_rule_100, s_M_rule_101, s_M_rule_104, s_M_rule_107, s_M_rule_109, s_M_rule_112, s_M_rule_115, s_M_rule_116, s_M_rule_119, s_M_rule_120, s_M_rule_121, s_M_rule_122, s_M_rule_123, s_M_rule_126, s_M_rule_127, s_M_rule_128, s_M_rule_129, s_M_rule_130, s_M_rule_131, s_M_rule_132, s_M_rule_135, s_M_rule_137, s_M_rule_140, s_M_rule_143, s_M_rule_144, s_M_rule_147, s_M_rule_148, s_M_rule_149, s_M_rule_150, s_M_rule_151, s_M_rule_154, s_M_rule_155, s_M_rule_156, s_M_rule_157, s_M_rule_158, s_M_rule_161, s_M_rule_162, s_M_rule_165, s_M_rule_166, s_M_rule_167, s_M_rule_170, s_M_rule_172, s_M_rule_175, s_M_rule_178, s_M_rule_181, s_M_rule_182, s_M_rule_185, s_M_rule_186, s_M_rule_187, s_M_rule_188, s_M_rule_189, s_M_rule_192, s_M_rule_193, s_M_rule_194, s_M_rule_195, s_M_rule_196, s_M_rule_199, s_M_rule_200, s_M_rule_203, s_M_rule_204, s_M_rule_205, s_M_rule_208, s_M_rule_209, s_M_rule_212, s_M_rule_213, s_M_rule_214, s_M_rule_215, s_M_rule_216, s_M_rule_217, s_M_rule_250, s_M_rule_253, mF, mC, ml_64, mf_64, mw_63, mw_64, ml_74, mf_74, mw_74, ml_75, mf_75, mw_75, ml_76, mf_76, mw_76, ml_77, mf_77, mw_77, xll_11, xlg_11_0, xlg_11_1, xlg_11_2, xlg_11_3, xlg_11_4, xlg_11_5, xlg_11_6, xlg_11_7, xlg_11_8, xls_11_0, xls_11_1, xls_11_2, xls_11_3, xls_11_4, xls_11_5, xls_11_6, xls_11_7, xls_11_8, not_false_eq_true, Nat.reduceLT, Nat.reduceAdd, true_and, and_true, if_true, if_false, ite_true, ite_false, xnb_0, xnb_1, xnb_b, xk_v, xk_n, kx_303_300, kx_303_301, kx_303_302, kx_303_213, kx_303_303, nI_a2 (i := n) (by omega) (by omega), nI_m (n - 2) (by omega) (by omega), show n - 2 - 1 = n - 3 from rfl, show n - 2 + 1 = n - 1 by omega, nvp (show n - 3 < 401 by omega) (by omega), ncl (show n - 3 < 2147483648 by omega), nvp (show n - 2 < 401 by omega) (by omega), ncl (show n - 2 < 2147483648 by omega), nvp (show n - 1 < 401 by omega) (by omega), ncl (show n - 1 < 2147483648 by omega), nI_1]
  by_cases z : f (n - 3) = 0
  · rw [if_pos z, if_pos z]
  · rw [if_neg z, if_neg z]
theorem r_join (hK : mK K) (nn c n i : Nat) (f : Nat → Int32) (hn : n < 400) (h1 : 2 ≤ n) (k x : Int32) (x0 : (x = 300) = False) (x1 : (x = 301) = False) (x2 : (x = 302) = False) (x3 : (x = 213) = False) (x4 : (x = 303) = False) (hj : ∀ (d : Nat) (Q : xR → Prop) (H : xH) (l r : Int32), xcall E xprog (d + 1) 172 [.int x, .int l, .int r] H Q = Q (.inl (some (.int (joC k l r))), H)) (y : Int32) (j6 : Option Value) :
    xr E (d + 6) m_M_rule Q (55, [some (.ref 63), some (.int (nI c)), some (.int (nI n)), some (.int (nI i)), some (.int x), some (.int y), j6], [], (mH H K th sz ea tp (nwO nn a t) kp wc f)) = xr E (d + 6) m_M_rule Q (12, [some (.ref 63), some (.int (nI c)), some (.int (nI (n - 1))), some (.int (nI (i + 1))), some (.int x), some (.int y), j6], [], (mH H K th sz ea tp (nwO nn a t) kp wc (upd f (n - 2) (joC k (f (n - 2)) (f (n - 1)))))) := by
  simp only [s_M_rule_55, s_M_rule_57, s_M_rule_60, s_M_rule_63, s_M_rule_65, s_M_rule_68, s_M_rule_71, s_M_rule_73, s_M_rule_76, s_M_rule_79, s_M_rule_81, s_M_rule_84, s_M_rule_85, s_M_rule_86, s_M_rule_88, s_M_rule_91, s_M_rule_93, s_M_rule_94, s_M_rule_97, s_M_rule_98, s_M_rule_100, s_M_rule_101, s_M_rule_104, s_M_rule_107, s_M_rule_109, s_M_rule_112, s_M_rule_115, s_M_rule_116, s_M_rule_119, s_M_rule_120, s_M_rule_121, s_M_rule_122, s_M_rule_123, s_M_rule_126, s_M_rule_127, s_M_rule_128, s_M_rule_129, s_M_rule_130, s_M_rule_131, s_M_rule_132, s_M_rule_135, s_M_rule_137, s_M_rule_140, s_M_rule_143, s_M_rule_144, s_M_rule_147, s_M_rule_148, s_M_rule_149, s_M_rule_150, s_M_rule_151, s_M_rule_154, s_M_rule_155, s_M_rule_156, s_M_rule_157, s_M_rule_158, s_M_rule_161, s_M_rule_162, s_M_rule_165, s_M_rule_166, s_M_rule_167, s_M_rule_170, s_M_rule_172, s_M_rule_175, s_M_rule_178, s_M_rule_181, s_M_rule_182, s_M_rule_185, s_M_rule_186, s_M_rule_187, s_M_rule_188, s_M_rule_189, s_M_rule_192, s_M_rule_193, s_M_rule_194, s_M_rule_195, s_M_rule_196, s_M_rule_199, s_M_rule_200, s_M_rule_203, s_M_rule_204, s_M_rule_205, s_M_rule_208, s_M_rule_209, s_M_rule_212, s_M_rule_213, s_M_rule_214, s_M_rule_215, s_M_rule_216, s_M_rule_217, s_M_rule_220, s_M_rule_250, s_M_rule_253, mF, mC, ml_64, mf_64, mw_63, mw_64, ml_74, mf_74, mw_74, ml_75, mf_75, mw_75, ml_76, mf_76, mw_76, ml_77, mf_77, mw_77, xll_11, xlg_11_0, xlg_11_1, xlg_11_2, xlg_11_3, xlg_11_4, xlg_11_5, xlg_11_6, xlg_11_7, xlg_11_8, xls_11_0, xls_11_1, xls_11_2, xls_11_3, xls_11_4, xls_11_5, xls_11_6, xls_11_7, xls_11_8, not_false_eq_true, Nat.reduceLT, Nat.reduceAdd, true_and, and_true, if_true, if_false, ite_true, ite_false, xnb_0, xnb_1, xnb_b, xk_v, xk_n, x0, x1, x2, x3, x4, s_M_rule_223, s_M_rule_224, s_M_rule_227, s_M_rule_228, s_M_rule_229, s_M_rule_230, s_M_rule_232, s_M_rule_233, s_M_rule_236, s_M_rule_237, s_M_rule_238, s_M_rule_239, s_M_rule_240, s_M_rule_241, s_M_rule_244, s_M_rule_245, s_M_rule_246, s_M_rule_249, hj, nI_a1 (i := n) (by omega) (by omega), nI_m (n - 1) (by omega) (by omega), show n - 1 - 1 = n - 2 from rfl, nvp (show n - 2 < 401 by omega) (by omega), ncl (show n - 2 < 2147483648 by omega), nvp (show n - 1 < 401 by omega) (by omega), ncl (show n - 1 < 2147483648 by omega), nI_1]
theorem r_ask (hM : kM H K g q) (hK : mK K) (nk nn : Nat) (rs re : Nat → Nat) (hR : kRk b s g q nk) (hC : kRc b s g q nn rs re) (ha : bOK a nk) (c : Nat) (hc : c < nn) (h0 : -1 < smeC a b t s nk c (nI 0)) (w n i : Nat) (f : Nat → Int32) (hn : n < 400) (hw : w < 10) (j6 : Option Value) :
    xr E (d + 6) m_M_rule Q (55, [some (.ref 63), some (.int (nI c)), some (.int (nI n)), some (.int (nI i)), some (.int 301), some (.int (nI w)), j6], [], (mH H K th sz ea tp (nwO nn a t) kp wc f)) = xr E (d + 6) m_M_rule Q (12, [some (.ref 63), some (.int (nI c)), some (.int (nI (n + 1))), some (.int (nI (i + 1))), some (.int 301), some (.int (nI w)), some (.int (tms a b t s nk c ms w))], [], (mH H K th sz ea tp (nwO nn a t) kp wc (upd f n (tms a b t s nk c ms w)))) := by
  simp only [s_M_rule_55, s_M_rule_57, s_M_rule_60, s_M_rule_63, s_M_rule_65, s_M_rule_68, s_M_rule_71, s_M_rule_73, s_M_rule_76, s_M_rule_79, s_M_rule_81, s_M_rule_84, s_M_rule_85, s_M_rule_86, s_M_rule_88, s_M_rule_91, s_M_rule_93, s_M_rule_94, s_M_rule_97, s_M_rule_98, s_M_rule_100, s_M_rule_101, s_M_rule_104, s_M_rule_250, s_M_rule_253, mF, mC, ml_64, mf_64, mw_63, mw_64, ml_74, mf_74, mw_74, ml_75, mf_75, mw_75, ml_76, mf_76, mw_76, ml_77, mf_77, mw_77, xll_11, xlg_11_0, xlg_11_1, xlg_11_2, xlg_11_3, xlg_11_4, xlg_11_5, xlg_11_6, xlg_11_7, xlg_11_8, xls_11_0, xls_11_1, xls_11_2, xls_11_3, xls_11_4, xls_11_5, xls_11_6, xls_11_7, xls_11_8, not_false_eq_true, Nat.reduceLT, Nat.reduceAdd, true_and, and_true, if_true, if_false, ite_true, ite_false, xnb_0, xnb_1, xnb_b, xk_v, xk_n, kx_301_300, kx_301_301, kx_301_302, kx_301_213, kx_301_303, nvp (show n < 401 by omega) (by omega), ncl (show n < 2147483648 by omega), nI_1, me_n (d := d + 1) (ms := ms) hM hK nk nn rs re hR hC ha c hc h0 f w hw]
theorem l_M_rule (hM : kM H K g q) (hK : mK K) (nk nn cnt e : Nat) (rs re : Nat → Nat) (hR : kRk b s g q nk) (hC : kRc b s g q nn rs re) (ha : bOK a nk) (hcn : cnt ≤ 400) (hO : ∀ j, j < cnt → tau (b 0 j) (b 1 j) (g 7 (2 * j)) (g 7 (2 * j + 1))) (c : Nat) (hc : c < nn) (he : re c = e) (hec : e ≤ cnt) (h0 : -1 < smeC a b t s nk c (nI 0)) : ∀ m i (p : stk) (j4 j5 j6 : Option Value), i + m = e → hgt (b 0) i m p.2 →
    xr E (d + 6) m_M_rule Q (12, [some (.ref 63), some (.int (nI c)), some (.int (nI p.2)), some (.int (nI i)), j4, j5, j6], [], mH H K th sz ea tp (nwO nn a t) kp wc p.1) =
    Q (.inl (some (.int ((rrn (tms a b t s nk c ms) (b 0) (b 1) i m p).1 0))), mH H K th sz ea tp (nwO nn a t) kp wc (rrn (tms a b t s nk c ms) (b 0) (b 1) i m p).1) := by
  have k2 : nn ≤ 6 := hC.2.1
  have kc := hC.2.2 c hc
  have h6 : g 6 (c + 1) = nI e := by rw [← he]; exact kc.2.2.2.2.2
  intro m
  induction m with
  | zero =>
    intro i p j4 j5 j6 hi hg
    have : i = e := by omega
    subst this
    exact l_M_rule_e hM hK nn i c p (by omega) (by omega) h6 j4 j5 j6
  | succ m ih =>
    intro i p j4 j5 j6 hi hg
    obtain ⟨g1, g2, g3⟩ := id hg
    have ho := hO i (by omega)
    rw [l_M_rule_h hM hK nn e c i p (by omega) (by omega) (by omega) h6]
    rw [show rrn (tms a b t s nk c ms) (b 0) (b 1) i (m + 1) p = rrn (tms a b t s nk c ms) (b 0) (b 1) (i + 1) m (rst (tms a b t s nk c ms) (b 0 i) (b 1 i) p) from rfl]
    have key : ∀ (p' : stk) (j4 j5 j6 : Option Value), rst (tms a b t s nk c ms) (b 0 i) (b 1 i) p = p' → p'.2 = hst (b 0 i) p.2 → xr E (d + 6) m_M_rule Q (12, [some (.ref 63), some (.int (nI c)), some (.int (nI p'.2)), some (.int (nI (i + 1))), j4, j5, j6], [], mH H K th sz ea tp (nwO nn a t) kp wc p'.1) =
      Q (.inl (some (.int ((rrn (tms a b t s nk c ms) (b 0) (b 1) (i + 1) m (rst (tms a b t s nk c ms) (b 0 i) (b 1 i) p)).1 0))), mH H K th sz ea tp (nwO nn a t) kp wc (rrn (tms a b t s nk c ms) (b 0) (b 1) (i + 1) m (rst (tms a b t s nk c ms) (b 0 i) (b 1 i) p)).1) := by
      intro p' j4 j5 j6 e1 e2
      rw [e1]
      exact ih (i + 1) p' j4 j5 j6 (by omega) (by rw [e2]; exact g3)
    rcases ho with ⟨z1, z2, z3⟩ | ⟨n, z0, z1, z2, z3⟩ | ⟨z1, z2⟩ | ⟨z1, z2⟩ | ⟨z1, z2⟩ | ⟨z1, z2⟩ | ⟨z1, z2⟩ | ⟨z1, z2⟩ | ⟨z1, z2⟩ | ⟨z1, z2⟩ | ⟨z1, z2⟩ | ⟨z1, z2⟩ | ⟨z1, z2⟩ | ⟨z1, z2⟩ | ⟨z1, z2⟩ | ⟨z1, z2⟩ | ⟨z1, z2⟩
    · rw [z2, z3, r_push hK nn c p.2 i p.1 g2]
      refine key (upd p.1 p.2 (b 1 i), p.2 + 1) _ _ _ ?_ ?_
      · rw [z1]; exact rs_2 g2
      · rw [z1]; rfl
    · rw [z2, z3, r_ask (ms := ms) hM hK nk nn rs re hR hC ha c hc h0 n p.2 i p.1 g2 z0]
      refine key (upd p.1 p.2 (tms a b t s nk c ms n), p.2 + 1) _ _ _ ?_ ?_
      · rw [z1]; exact rs_ask z0 g2
      · rw [z1]
        have w : n = 0 ∨ n = 1 ∨ n = 2 ∨ n = 3 ∨ n = 4 ∨ n = 5 ∨ n = 6 ∨ n = 7 ∨ n = 8 ∨ n = 9 := by omega
        rcases w with w | w | w | w | w | w | w | w | w | w <;> subst w <;> rfl
    · have g1' : 1 ≤ p.2 := by rw [z1] at g1; exact g1
      rw [z2, r_neg hK nn c p.2 i p.1 g2 g1']
      refine key (upd p.1 (p.2 - 1) (-p.1 (p.2 - 1)), p.2) _ _ _ ?_ ?_
      · rw [z1]; exact rs_1 (Or.inl rfl) g1' g2
      · rw [z1]; rfl
    · have g1' : 1 ≤ p.2 := by rw [z1] at g1; exact g1
      rw [z2, r_not hK nn c p.2 i p.1 g2 g1']
      refine key (upd p.1 (p.2 - 1) (xb (p.1 (p.2 - 1) = 0)), p.2) _ _ _ ?_ ?_
      · rw [z1]; exact rs_1 (Or.inr rfl) g1' g2
      · rw [z1]; rfl
    · have g1' : 3 ≤ p.2 := by rw [z1] at g1; exact g1
      rw [z2, r_if hK nn c p.2 i p.1 g2 g1']
      refine key (upd p.1 (p.2 - 3) (if p.1 (p.2 - 3) = 0 then p.1 (p.2 - 1) else p.1 (p.2 - 2)), p.2 - 2) _ _ _ ?_ ?_
      · rw [z1]; exact rs_3 g1' g2
      · rw [z1]; rfl
    · have g1' : 2 ≤ p.2 := by rw [z1] at g1; exact g1
      rw [z2, r_join hK nn c p.2 i p.1 g2 g1' 111 211 kx_211_300 kx_211_301 kx_211_302 kx_211_213 kx_211_303 (fun d Q H l r => mj_211 l r)]
      refine key (upd p.1 (p.2 - 2) (joC 111 (p.1 (p.2 - 2)) (p.1 (p.2 - 1))), p.2 - 1) _ _ _ ?_ ?_
      · rw [z1]; exact rs_j g1' g2 (rst_j (by decide) (by decide) (by decide) (by decide) (by decide))
      · rw [z1]; rfl
    · have g1' : 2 ≤ p.2 := by rw [z1] at g1; exact g1
      rw [z2, r_join hK nn c p.2 i p.1 g2 g1' 112 212 kx_212_300 kx_212_301 kx_212_302 kx_212_213 kx_212_303 (fun d Q H l r => mj_212 l r)]
      refine key (upd p.1 (p.2 - 2) (joC 112 (p.1 (p.2 - 2)) (p.1 (p.2 - 1))), p.2 - 1) _ _ _ ?_ ?_
      · rw [z1]; exact rs_j g1' g2 (rst_j (by decide) (by decide) (by decide) (by decide) (by decide))
      · rw [z1]; rfl
    · have g1' : 2 ≤ p.2 := by rw [z1] at g1; exact g1
      rw [z2, r_join hK nn c p.2 i p.1 g2 g1' 114 214 kx_214_300 kx_214_301 kx_214_302 kx_214_213 kx_214_303 (fun d Q H l r => mj_214 l r)]
      refine key (upd p.1 (p.2 - 2) (joC 114 (p.1 (p.2 - 2)) (p.1 (p.2 - 1))), p.2 - 1) _ _ _ ?_ ?_
      · rw [z1]; exact rs_j g1' g2 (rst_j (by decide) (by decide) (by decide) (by decide) (by decide))
      · rw [z1]; rfl
    · have g1' : 2 ≤ p.2 := by rw [z1] at g1; exact g1
      rw [z2, r_join hK nn c p.2 i p.1 g2 g1' 115 215 kx_215_300 kx_215_301 kx_215_302 kx_215_213 kx_215_303 (fun d Q H l r => mj_215 l r)]
      refine key (upd p.1 (p.2 - 2) (joC 115 (p.1 (p.2 - 2)) (p.1 (p.2 - 1))), p.2 - 1) _ _ _ ?_ ?_
      · rw [z1]; exact rs_j g1' g2 (rst_j (by decide) (by decide) (by decide) (by decide) (by decide))
      · rw [z1]; rfl
    · have g1' : 2 ≤ p.2 := by rw [z1] at g1; exact g1
      rw [z2, r_join hK nn c p.2 i p.1 g2 g1' 37 37 kx_37_300 kx_37_301 kx_37_302 kx_37_213 kx_37_303 (fun d Q H l r => mj_37 l r)]
      refine key (upd p.1 (p.2 - 2) (joC 37 (p.1 (p.2 - 2)) (p.1 (p.2 - 1))), p.2 - 1) _ _ _ ?_ ?_
      · rw [z1]; exact rs_j g1' g2 (rst_j (by decide) (by decide) (by decide) (by decide) (by decide))
      · rw [z1]; rfl
    · have g1' : 2 ≤ p.2 := by rw [z1] at g1; exact g1
      rw [z2, r_join hK nn c p.2 i p.1 g2 g1' 42 42 kx_42_300 kx_42_301 kx_42_302 kx_42_213 kx_42_303 (fun d Q H l r => mj_42 l r)]
      refine key (upd p.1 (p.2 - 2) (joC 42 (p.1 (p.2 - 2)) (p.1 (p.2 - 1))), p.2 - 1) _ _ _ ?_ ?_
      · rw [z1]; exact rs_j g1' g2 (rst_j (by decide) (by decide) (by decide) (by decide) (by decide))
      · rw [z1]; rfl
    · have g1' : 2 ≤ p.2 := by rw [z1] at g1; exact g1
      rw [z2, r_join hK nn c p.2 i p.1 g2 g1' 43 43 kx_43_300 kx_43_301 kx_43_302 kx_43_213 kx_43_303 (fun d Q H l r => mj_43 l r)]
      refine key (upd p.1 (p.2 - 2) (joC 43 (p.1 (p.2 - 2)) (p.1 (p.2 - 1))), p.2 - 1) _ _ _ ?_ ?_
      · rw [z1]; exact rs_j g1' g2 (rst_j (by decide) (by decide) (by decide) (by decide) (by decide))
      · rw [z1]; rfl
    · have g1' : 2 ≤ p.2 := by rw [z1] at g1; exact g1
      rw [z2, r_join hK nn c p.2 i p.1 g2 g1' 45 45 kx_45_300 kx_45_301 kx_45_302 kx_45_213 kx_45_303 (fun d Q H l r => mj_45 l r)]
      refine key (upd p.1 (p.2 - 2) (joC 45 (p.1 (p.2 - 2)) (p.1 (p.2 - 1))), p.2 - 1) _ _ _ ?_ ?_
      · rw [z1]; exact rs_j g1' g2 (rst_j (by decide) (by decide) (by decide) (by decide) (by decide))
      · rw [z1]; rfl
    · have g1' : 2 ≤ p.2 := by rw [z1] at g1; exact g1
      rw [z2, r_join hK nn c p.2 i p.1 g2 g1' 47 47 kx_47_300 kx_47_301 kx_47_302 kx_47_213 kx_47_303 (fun d Q H l r => mj_47 l r)]
      refine key (upd p.1 (p.2 - 2) (joC 47 (p.1 (p.2 - 2)) (p.1 (p.2 - 1))), p.2 - 1) _ _ _ ?_ ?_
      · rw [z1]; exact rs_j g1' g2 (rst_j (by decide) (by decide) (by decide) (by decide) (by decide))
      · rw [z1]; rfl
    · have g1' : 2 ≤ p.2 := by rw [z1] at g1; exact g1
      rw [z2, r_join hK nn c p.2 i p.1 g2 g1' 60 60 kx_60_300 kx_60_301 kx_60_302 kx_60_213 kx_60_303 (fun d Q H l r => mj_60 l r)]
      refine key (upd p.1 (p.2 - 2) (joC 60 (p.1 (p.2 - 2)) (p.1 (p.2 - 1))), p.2 - 1) _ _ _ ?_ ?_
      · rw [z1]; exact rs_j g1' g2 (rst_j (by decide) (by decide) (by decide) (by decide) (by decide))
      · rw [z1]; rfl
    · have g1' : 2 ≤ p.2 := by rw [z1] at g1; exact g1
      rw [z2, r_join hK nn c p.2 i p.1 g2 g1' 61 61 kx_61_300 kx_61_301 kx_61_302 kx_61_213 kx_61_303 (fun d Q H l r => mj_61 l r)]
      refine key (upd p.1 (p.2 - 2) (joC 61 (p.1 (p.2 - 2)) (p.1 (p.2 - 1))), p.2 - 1) _ _ _ ?_ ?_
      · rw [z1]; exact rs_j g1' g2 (rst_j (by decide) (by decide) (by decide) (by decide) (by decide))
      · rw [z1]; rfl
    · have g1' : 2 ≤ p.2 := by rw [z1] at g1; exact g1
      rw [z2, r_join hK nn c p.2 i p.1 g2 g1' 62 62 kx_62_300 kx_62_301 kx_62_302 kx_62_213 kx_62_303 (fun d Q H l r => mj_62 l r)]
      refine key (upd p.1 (p.2 - 2) (joC 62 (p.1 (p.2 - 2)) (p.1 (p.2 - 1))), p.2 - 1) _ _ _ ?_ ?_
      · rw [z1]; exact rs_j g1' g2 (rst_j (by decide) (by decide) (by decide) (by decide) (by decide))
      · rw [z1]; rfl
theorem f_M_rule (hM : kM H K g q) (hK : mK K) (nk nn cnt : Nat) (rs re : Nat → Nat) (hR : kRk b s g q nk) (hC : kRc b s g q nn rs re) (ha : bOK a nk) (hcn : cnt ≤ 400) (hO : ∀ j, j < cnt → tau (b 0 j) (b 1 j) (g 7 (2 * j)) (g 7 (2 * j + 1))) (c : Nat) (hc : c < nn) (h1 : rs c ≤ re c) (h2 : re c ≤ cnt) (h0 : -1 < smeC a b t s nk c (nI 0)) (hg : hgt (b 0) (rs c) (re c - rs c) 0) (f : Nat → Int32) :
    xcall E xprog (d + 7) 173 [.ref 63, .int (nI c)] (mH H K th sz ea tp (nwO nn a t) kp wc f) Q =
    Q (.inl (some (.int ((rrn (tms a b t s nk c ms) (b 0) (b 1) (rs c) (re c - rs c) (f, 0)).1 0))), mH H K th sz ea tp (nwO nn a t) kp wc (rrn (tms a b t s nk c ms) (b 0) (b 1) (rs c) (re c - rs c) (f, 0)).1) := by
  have k2 : nn ≤ 6 := hC.2.1
  have kc := hC.2.2 c hc
  rw [e_M_rule]
  simp only [s_M_rule_0, s_M_rule_1, s_M_rule_2, s_M_rule_3, s_M_rule_6, s_M_rule_9, s_M_rule_10, s_M_rule_11, mF, mC, ml_64, mf_64, mw_63, mw_64, ml_74, mf_74, mw_74, ml_75, mf_75, mw_75, ml_76, mf_76, mw_76, ml_77, mf_77, mw_77, xll_11, xlg_11_0, xlg_11_1, xlg_11_2, xlg_11_3, xlg_11_4, xlg_11_5, xlg_11_6, xlg_11_7, xlg_11_8, xls_11_0, xls_11_1, xls_11_2, xls_11_3, xls_11_4, xls_11_5, xls_11_6, xls_11_7, xls_11_8, nF hM hK, nC hM hK, nl_0 hM hK, nl_1 hM hK, nl_2 hM hK, nl_3 hM hK, nl_4 hM hK, nl_5 hM hK, nl_6 hM hK, nl_7 hM hK, nf_0 hM hK, nf_1 hM hK, nf_2 hM hK, nf_3 hM hK, nf_4 hM hK, nf_5 hM hK, nf_6 hM hK, nf_7 hM hK, xll_9, xlg_9_0, xlg_9_1, xlg_9_2, xlg_9_3, xlg_9_4, xlg_9_5, xlg_9_6, xlg_9_7, xlg_9_8, xlg_9_9, xlg_9_10, xlg_9_11, xlg_9_12, xlg_9_13, not_false_eq_true, Nat.reduceLT, Nat.reduceAdd, true_and, and_true, if_true, if_false, ite_true, ite_false, xnb_0, xnb_1, xnb_b, xk_v, xk_n, nvp (show c < 8 by omega) (by omega), ncl (show c < 2147483648 by omega), kc.2.2.2.2.1]
  exact l_M_rule hM hK nk nn cnt (re c) rs re hR hC ha hcn hO c hc rfl h2 h0 (re c - rs c) (rs c) (f, 0) _ _ _ (by omega) hg
end MRULE
