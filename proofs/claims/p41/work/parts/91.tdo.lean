/-! ===== what the class's methods do ===== -/
section TDO
variable {E : xE} {d D n n' Ln Mn j : Nat} {Q : xR → Prop} {X X1 X' H : xH} {Kb Ks Kt K l : Nat} {ep th k v : Int32} {T : Nat → Nat} {tp : Nat → Int32} {b : Nat → Nat → Int32} {nm : Nat → Int64} {s : Nat → Int32} {a a' : Nat → Nat → Int32} {t t' : Nat → Int32} {co ro nk nc nn cnt : Nat} {rs re : Nat → Nat} {ms sk : Nat → Int32} {sz ea h : Int32} {h' : Int32} {q : Nat → Int32}
/-- what a clipper's rule tells -/
def tvC (a b : Nat → Nat → Int32) (t s : Nat → Int32) (nk : Nat) (rs re : Nat → Nat) (c : Nat) (ms sk : Nat → Int32) : Int32 := popV (teR a b t s nk c (rs c) (re c) ms sk)
theorem g_Bay_tell (hB : kB X Kb b nm s) (hK : Kb < 26) (hY : kY X 43 Kb a t) (hT : kT X ms sk h) (hW : kW b s nk nc nn cnt rs re) {i : Nat} (hi : i < nn) : ∃ (ms' sk' : Nat → Int32) (h' : Int32), ∀ Q,
    xcall E xprog (d + 4) 8 [.ref 43, .int (nI i)] X Q = Q (.inl (some (.int (tvC a b t s nk rs re i ms sk))), sH X 43 Kb a t ms' sk' h') := by
  obtain ⟨w1, w2, w3, w4, w5, w6, w7, w8, w9⟩ := id hW
  have wc := w9 i hi
  refine ⟨_, _, _, fun Q => (congrArg (fun Z => xcall E xprog (d + 4) 8 [.ref 43, .int (nI i)] Z Q) (sH_of hY hT)).trans (f_Bay_tell hB hK (show 42 < 43 by omega) nk w1 w2 i (by omega) cnt (rs i) (re i) w7 w8 wc.2.1 wc.1 wc.2.2.1 wc.2.2.2)⟩
theorem c_T_ruleTells_i (hc : X.1 0 = tgC Kb Ks ep) (hB : kB X Kb b nm s) (hY : kY X 43 Kb a t) (hs : s 4 = nI nn) (h6 : nn ≤ 6) {i : Nat} (hi : i < nn) {v : Int32} (hz : ∀ Q, xcall E xprog (d + 4) 8 [.ref 43, .int (nI i)] X Q = Q (.inl (some (.int v)), X1)) : xcall E xprog (d + 5) 92 [.ref 0, .int (nI i)] X Q = Q (.inl (some (.int v)), X1) := by
  have z := fun (Q : xR → Prop) => f_T_needClipper (E := E) (d := d + 3) (Q := Q) hc hB (nI i)
  rw [hs] at z
  have y0 := hY.1
  unfold tgC at hc
  rw [e_T_ruleTells]
  simp only [s_T_ruleTells_0, s_T_ruleTells_1, s_T_ruleTells_2, s_T_ruleTells_5, s_T_ruleTells_6, s_T_ruleTells_9, s_T_ruleTells_10, s_T_ruleTells_13, xc_of hc, xf_of hc, xll_8, xlg_8_0, xlg_8_1, xlg_8_2, xlg_8_3, xlg_8_4, xlg_8_5, xlg_8_6, xc_of y0, not_false_eq_true, Nat.reduceLT, Nat.reduceAdd, true_and, and_true, if_true, if_false, ite_true, ite_false, xnb_0, xnb_1, xnb_b, xk_v, xk_n, z, eq_false (cl_no hi h6), hz]
theorem c_T_wouldStay_i (hc : X.1 0 = tgC Kb Ks ep) (hB : kB X Kb b nm s) (hY : kY X 43 Kb a t) (hs : s 4 = nI nn) (h6 : nn ≤ 6) {i : Nat} (hi : i < nn) {v : Int32} (hz : ∀ Q, xcall E xprog (d + 4) 8 [.ref 43, .int (nI i)] X Q = Q (.inl (some (.int v)), X1)) : xcall E xprog (d + 5) 93 [.ref 0, .int (nI i)] X Q = if v < 0 then Q (.inl (some (.int 1)), X1) else Q (.inl (some (.int 0)), X1) := by
  have z := fun (Q : xR → Prop) => f_T_needClipper (E := E) (d := d + 3) (Q := Q) hc hB (nI i)
  rw [hs] at z
  have y0 := hY.1
  unfold tgC at hc
  rw [e_T_wouldStay]
  simp only [s_T_wouldStay_0, s_T_wouldStay_1, s_T_wouldStay_2, s_T_wouldStay_5, s_T_wouldStay_6, s_T_wouldStay_9, s_T_wouldStay_10, s_T_wouldStay_13, s_T_wouldStay_16, s_T_wouldStay_17, s_T_wouldStay_20, s_T_wouldStay_21, xc_of hc, xf_of hc, xll_8, xlg_8_0, xlg_8_1, xlg_8_2, xlg_8_3, xlg_8_4, xlg_8_5, xlg_8_6, xc_of y0, not_false_eq_true, Nat.reduceLT, Nat.reduceAdd, true_and, and_true, if_true, if_false, ite_true, ite_false, xnb_0, xnb_1, xnb_b, xk_v, xk_n, z, eq_false (cl_no hi h6), hz]
theorem c_T_steersTo_i (hc : X.1 0 = tgC Kb Ks ep) (hB : kB X Kb b nm s) (hY : kY X 43 Kb a t) (hs : s 4 = nI nn) (h6 : nn ≤ 6) {i : Nat} (hi : i < nn) {v : Int32} (hz : ∀ Q, xcall E xprog (d + 4) 8 [.ref 43, .int (nI i)] X Q = Q (.inl (some (.int v)), X1)) : xcall E xprog (d + 5) 94 [.ref 0, .int (nI i)] X Q = if v < 0 then Q (.inr 13, xnew X1 (.inr (13, [])) 6) else Q (.inl (some (.int (v - v / 4 * 4))), X1) := by
  have z := fun (Q : xR → Prop) => f_T_needClipper (E := E) (d := d + 3) (Q := Q) hc hB (nI i)
  rw [hs] at z
  have y0 := hY.1
  unfold tgC at hc
  rw [e_T_steersTo]
  simp only [s_T_steersTo_0, s_T_steersTo_1, s_T_steersTo_2, s_T_steersTo_5, s_T_steersTo_6, s_T_steersTo_9, s_T_steersTo_10, s_T_steersTo_13, s_T_steersTo_14, s_T_steersTo_15, s_T_steersTo_18, s_T_steersTo_28, s_T_steersTo_29, s_T_steersTo_30, s_T_steersTo_31, xc_of hc, xf_of hc, xll_8, xlg_8_0, xlg_8_1, xlg_8_2, xlg_8_3, xlg_8_4, xlg_8_5, xlg_8_6, xc_of y0, not_false_eq_true, Nat.reduceLT, Nat.reduceAdd, true_and, and_true, if_true, if_false, ite_true, ite_false, xnb_0, xnb_1, xnb_b, xk_v, xk_n, z, eq_false (cl_no hi h6), hz, t_T_steersTo_27, show ((4 : Int32) = 0) = False from eq_false (by decide)]
/-- the leader among f and the m clippers from i on -/
def ldR (a : Nat → Nat → Int32) : Nat → Nat → Nat → Nat
  | _, 0, f => f
  | i, m + 1, f => ldR a (i + 1) m (if a 7 f < a 7 i ∨ (a 7 i = a 7 f ∧ a 5 f < a 5 i) then i else f)
theorem l_T_leader (hc : X.1 0 = tgC Kb Ks ep) (hB : kB X Kb b nm s) (hY : kY X 43 Kb a t) (hs : s 4 = nI nn) (h6 : nn ≤ 6) : ∀ m i f, i + m = nn → f < nn →
    xr E (d + 1) m_T_leader Q (25, [some (.ref 0), some (.int (nI f)), some (.int (nI i))], [], X) = Q (.inl (some (.int (nI (ldR a i m f)))), X) := by
  have y0 := hY.1
  have b0 := hB.1
  unfold tgC at hc
  intro m
  induction m with
  | zero =>
    intro i f hi hf
    rw [s_T_leader_25]
    simp only [s_T_leader_26, s_T_leader_27, s_T_leader_30, s_T_leader_33, s_T_leader_36, s_T_leader_37, s_T_leader_40, s_T_leader_41, s_T_leader_42, s_T_leader_45, s_T_leader_48, s_T_leader_49, s_T_leader_50, s_T_leader_53, s_T_leader_56, s_T_leader_57, xc_of hc, xf_of hc, xll_8, xlg_8_0, xlg_8_1, xlg_8_2, xlg_8_3, xlg_8_4, xlg_8_5, xlg_8_6, xf_of b0, xll_1, xlg_1_0, xlg_1_1, xlg_1_2, xlg_1_3, xlg_1_4, xlg_1_5, xlg_1_6, xlg_1_7, xlg_1_8, xlg_1_9, xlg_1_10, xlg_1_11, xlg_1_12, xlg_1_13, xlg_1_14, xlg_1_15, xlg_1_16, hs, not_false_eq_true, Nat.reduceLT, Nat.reduceAdd, true_and, and_true, if_true, if_false, ite_true, ite_false, xnb_0, xnb_1, xnb_b, xk_v, xk_n, nge (show nn ≤ i by omega) (by omega), ldR]
  | succ m ih =>
    intro i f hi hf
    have z := fun (Q : xR → Prop) => f_Bay_isAhead (E := E) (d := d) (Q := Q) hY i f (by omega) (by omega)
    rw [s_T_leader_25]
    by_cases p : a 7 f < a 7 i ∨ (a 7 i = a 7 f ∧ a 5 f < a 5 i)
    · rw [xb_t p] at z
      simp only [s_T_leader_26, s_T_leader_27, s_T_leader_30, s_T_leader_33, s_T_leader_36, s_T_leader_37, s_T_leader_40, s_T_leader_41, s_T_leader_42, s_T_leader_45, s_T_leader_48, s_T_leader_49, s_T_leader_50, s_T_leader_53, s_T_leader_56, s_T_leader_57, xc_of hc, xf_of hc, xll_8, xlg_8_0, xlg_8_1, xlg_8_2, xlg_8_3, xlg_8_4, xlg_8_5, xlg_8_6, xf_of b0, xc_of y0, xll_1, xlg_1_0, xlg_1_1, xlg_1_2, xlg_1_3, xlg_1_4, xlg_1_5, xlg_1_6, xlg_1_7, xlg_1_8, xlg_1_9, xlg_1_10, xlg_1_11, xlg_1_12, xlg_1_13, xlg_1_14, xlg_1_15, xlg_1_16, hs, not_false_eq_true, Nat.reduceLT, Nat.reduceAdd, true_and, and_true, if_true, if_false, ite_true, ite_false, xnb_0, xnb_1, xnb_b, xk_v, xk_n, nlt (show i < nn by omega) (by omega), z, ne_1, nI_1, ih (i + 1) _ (by omega) (show i < nn by omega), ldR, if_pos p]
    · rw [xb_f p] at z
      simp only [s_T_leader_26, s_T_leader_27, s_T_leader_30, s_T_leader_33, s_T_leader_36, s_T_leader_37, s_T_leader_40, s_T_leader_41, s_T_leader_42, s_T_leader_45, s_T_leader_48, s_T_leader_49, s_T_leader_50, s_T_leader_53, s_T_leader_56, s_T_leader_57, xc_of hc, xf_of hc, xll_8, xlg_8_0, xlg_8_1, xlg_8_2, xlg_8_3, xlg_8_4, xlg_8_5, xlg_8_6, xf_of b0, xc_of y0, xll_1, xlg_1_0, xlg_1_1, xlg_1_2, xlg_1_3, xlg_1_4, xlg_1_5, xlg_1_6, xlg_1_7, xlg_1_8, xlg_1_9, xlg_1_10, xlg_1_11, xlg_1_12, xlg_1_13, xlg_1_14, xlg_1_15, xlg_1_16, hs, not_false_eq_true, Nat.reduceLT, Nat.reduceAdd, true_and, and_true, if_true, if_false, ite_true, ite_false, xnb_0, xnb_1, xnb_b, xk_v, xk_n, nlt (show i < nn by omega) (by omega), z, nI_1, ih (i + 1) _ (by omega) hf, ldR, if_neg p]
theorem c_T_leader_i (hc : X.1 0 = tgC Kb Ks ep) (hB : kB X Kb b nm s) (hY : kY X 43 Kb a t) (hs : s 4 = nI nn) (h6 : nn ≤ 6) (h0 : 0 < nn) : xcall E xprog (d + 2) 95 [.ref 0] X Q = Q (.inl (some (.int (nI (ldR a 1 (nn - 1) 0)))), X) := by
  have b0 := hB.1
  have z := fun (Q : xR → Prop) => l_T_leader (E := E) (d := d) (Q := Q) hc hB hY hs h6 (nn - 1) 1 0 (by omega) h0
  rw [show nI 0 = (0 : Int32) from rfl, show nI 1 = (1 : Int32) from rfl] at z
  unfold tgC at hc
  rw [e_T_leader]
  simp only [s_T_leader_0, s_T_leader_1, s_T_leader_4, s_T_leader_7, s_T_leader_8, s_T_leader_11, s_T_leader_21, s_T_leader_22, s_T_leader_23, s_T_leader_24, xc_of hc, xf_of hc, xll_8, xlg_8_0, xlg_8_1, xlg_8_2, xlg_8_3, xlg_8_4, xlg_8_5, xlg_8_6, xf_of b0, xll_1, xlg_1_0, xlg_1_1, xlg_1_2, xlg_1_3, xlg_1_4, xlg_1_5, xlg_1_6, xlg_1_7, xlg_1_8, xlg_1_9, xlg_1_10, xlg_1_11, xlg_1_12, xlg_1_13, xlg_1_14, xlg_1_15, xlg_1_16, hs, not_false_eq_true, Nat.reduceLT, Nat.reduceAdd, true_and, and_true, if_true, if_false, ite_true, ite_false, xnb_0, xnb_1, xnb_b, xk_v, xk_n, show (nI nn < 1) = False from eq_false (by rw [nI_l1 nn (by omega)]; omega), z]
theorem z43F : xfls (sH H 43 K a t ms sk h) 43 0 = [.ref 40, .ref 44, .ref 45, .ref 46, .ref 47, .ref 48, .ref 49, .ref 50, .ref 51, .ref 52, .ref K, .int (t 0), .int (t 1), .int (t 2)] := yF (B := 43) (by omega)
theorem z43C : xcl (sH H 43 K a t ms sk h) 43 = 0 := yC (B := 43) (by omega)
theorem z43W {x y z : Int32} {K' : Nat} : xset (sH H 43 K a t ms sk h) 43 (.inr (0, [.ref 40, .ref 44, .ref 45, .ref 46, .ref 47, .ref 48, .ref 49, .ref 50, .ref 51, .ref 52, .ref K', .int x, .int y, .int z])) = sH H 43 K' a (tri x y z) ms sk h := ywB (B := 43) (by omega)
theorem z43l_0 : xlenI (sH H 43 K a t ms sk h) 44 = 6 := yl_0 (B := 43) (by omega)
theorem z43f_0 : xfnI (sH H 43 K a t ms sk h) 44 = a 0 := yf_0 (B := 43) (by omega)
theorem z43l_5 : xlenI (sH H 43 K a t ms sk h) 49 = 6 := yl_5 (B := 43) (by omega)
theorem z43f_5 : xfnI (sH H 43 K a t ms sk h) 49 = a 5 := yf_5 (B := 43) (by omega)
theorem z43l_7 : xlenI (sH H 43 K a t ms sk h) 51 = 6 := yl_7 (B := 43) (by omega)
theorem z43f_7 : xfnI (sH H 43 K a t ms sk h) 51 = a 7 := yf_7 (B := 43) (by omega)
theorem z43w_0 {f : Nat → Int32} : xset (sH H 43 K a t ms sk h) 44 (xarI 6 f) = sH H 43 K (upr a 0 f) t ms sk h := yw_0 (B := 43) (by omega)
theorem z43w_5 {f : Nat → Int32} : xset (sH H 43 K a t ms sk h) 49 (xarI 6 f) = sH H 43 K (upr a 5 f) t ms sk h := yw_5 (B := 43) (by omega)
theorem z_0 (hc : X.1 0 = tgC Kb Ks ep) : (sH X 43 Kb a t ms sk h).1 0 = tgC Kb Ks ep := (sH_o (by omega) 0 (by omega)).trans hc
theorem z_0t (hc : X.1 0 = tgC Kb Ks ep) : (sH X 53 K a t ms sk h).1 0 = tgC Kb Ks ep := (sH_o (by omega) 0 (by omega)).trans hc
theorem in_3 {c : Int32} (h : ¬ (c < 0 ∨ 3 < c)) : ∃ i, i ≤ 3 ∧ c = nI i := by
  have e1 : (3 : Int32).toInt = 3 := by decide
  have e3 : (0 : Int32).toInt = 0 := by decide
  rw [not_or, Int32.lt_iff_toInt_lt, Int32.lt_iff_toInt_lt, e1, e3] at h
  exact ⟨c.toInt.toNat, by omega, nI_tn (by omega)⟩
theorem in_20 {c : Int32} (h : ¬ (c < 0 ∨ 20 < c)) : ∃ i, i ≤ 20 ∧ c = nI i := by
  have e1 : (20 : Int32).toInt = 20 := by decide
  have e3 : (0 : Int32).toInt = 0 := by decide
  rw [not_or, Int32.lt_iff_toInt_lt, Int32.lt_iff_toInt_lt, e1, e3] at h
  exact ⟨c.toInt.toNat, by omega, nI_tn (by omega)⟩
theorem di_3 {c : Int32} (h : ¬ (c < 0 ∨ ¬ c < 4)) : ¬ (c < 0 ∨ 3 < c) := by
  have := (dir_in c).mpr h
  exact fun z => z.elim this.1 this.2
theorem c_T_setWind_i (hc : X.1 0 = tgC Kb Ks ep) {r f : Int32} (h : ¬ (r < 0 ∨ ¬ r < 4)) (h2 : ¬ (f < 0 ∨ 3 < f)) : xcall E xprog (d + 2) 96 [.ref 0, .int r, .int f] (sH X 43 Kb a t ms sk h') Q = Q (.inl (some (.int (t 1))), sH X 43 Kb a (tri r f (t 2)) ms sk h') := by
  have z := fun (Q : xR → Prop) => f_T_needDirection (E := E) (d := d) (Q := Q) (X := sH X 43 Kb a t ms sk h') r
  have p1 : ¬ f < 0 := fun z => h2 (Or.inl z)
  have p2 : ¬ 3 < f := fun z => h2 (Or.inr z)
  have hc1 := fun (t : Nat → Int32) => z_0 (a := a) (t := t) (ms := ms) (sk := sk) (h := h') hc
  unfold tgC at hc1
  rw [e_T_setWind]
  simp only [s_T_setWind_0, s_T_setWind_1, s_T_setWind_4, s_T_setWind_5, s_T_setWind_8, s_T_setWind_9, s_T_setWind_10, s_T_setWind_13, s_T_setWind_23, s_T_setWind_24, s_T_setWind_27, s_T_setWind_30, s_T_setWind_31, s_T_setWind_32, s_T_setWind_35, s_T_setWind_36, s_T_setWind_39, s_T_setWind_40, s_T_setWind_43, s_T_setWind_44, s_T_setWind_47, s_T_setWind_48, not_false_eq_true, Nat.reduceLT, Nat.reduceAdd, true_and, and_true, if_true, if_false, ite_true, ite_false, xnb_0, xnb_1, xnb_b, xk_v, xk_n, z, eq_false h, eq_false p1, eq_false p2, xf_of (hc1 _), xll_8, xlg_8_0, xlg_8_1, xlg_8_2, xlg_8_3, xlg_8_4, xlg_8_5, xlg_8_6, z43F, z43C, z43W, z43l_0, z43f_0, z43l_5, z43f_5, z43l_7, z43f_7, z43w_0, z43w_5, tri_0, tri_1, tri_2, xll_0, xlg_0_0, xlg_0_1, xlg_0_2, xlg_0_3, xlg_0_4, xlg_0_5, xlg_0_6, xlg_0_7, xlg_0_8, xlg_0_9, xlg_0_10, xlg_0_11, xlg_0_12, xlg_0_13, xls_0_0, xls_0_1, xls_0_2, xls_0_3, xls_0_4, xls_0_5, xls_0_6, xls_0_7, xls_0_8, xls_0_9, xls_0_10, xls_0_11, xls_0_12, xls_0_13]
theorem c_T_jettison_i (hKb : Kb < 26) (hc : X.1 0 = tgC Kb Ks ep) (hB : kB X Kb b nm s) (hs : s 4 = nI nn) (h6 : nn ≤ 6) {i : Nat} (hi : i < nn) {v : Int32} (h2 : ¬ v < 1) (h3 : ¬ a 5 i < v) : xcall E xprog (d + 2) 97 [.ref 0, .int (nI i), .int v] (sH X 43 Kb a t ms sk h') Q = Q (.inl (some (.int (a 5 i - v))), sH X 43 Kb (upr a 5 (upd (a 5) i (a 5 i - v))) t ms sk h') := by
  have hc1 := fun (a : Nat → Nat → Int32) => z_0 (a := a) (t := t) (ms := ms) (sk := sk) (h := h') hc
  have hKB : kB (sH X 43 Kb a t ms sk h') Kb b nm s := sH_kB hB hKb (show 42 < 43 by omega)
  have z := fun (Q : xR → Prop) => f_T_needClipper (E := E) (d := d) (Q := Q) (hc1 a) hKB (nI i)
  rw [hs] at z
  unfold tgC at hc1
  rw [e_T_jettison]
  simp only [s_T_jettison_0, s_T_jettison_1, s_T_jettison_2, s_T_jettison_5, s_T_jettison_6, s_T_jettison_7, s_T_jettison_10, s_T_jettison_20, s_T_jettison_21, s_T_jettison_22, s_T_jettison_25, s_T_jettison_28, s_T_jettison_29, s_T_jettison_30, s_T_jettison_33, s_T_jettison_43, s_T_jettison_44, s_T_jettison_47, s_T_jettison_50, s_T_jettison_51, s_T_jettison_52, s_T_jettison_53, s_T_jettison_54, s_T_jettison_55, s_T_jettison_56, s_T_jettison_57, s_T_jettison_60, s_T_jettison_63, s_T_jettison_64, s_T_jettison_65, xc_of (hc1 _), xf_of (hc1 _), xll_8, xlg_8_0, xlg_8_1, xlg_8_2, xlg_8_3, xlg_8_4, xlg_8_5, xlg_8_6, not_false_eq_true, Nat.reduceLT, Nat.reduceAdd, true_and, and_true, if_true, if_false, ite_true, ite_false, xnb_0, xnb_1, xnb_b, xk_v, xk_n, z, eq_false (cl_no hi h6), eq_false h2, eq_false h3, z43F, z43C, z43W, z43l_0, z43f_0, z43l_5, z43f_5, z43l_7, z43f_7, z43w_0, z43w_5, tri_0, tri_1, tri_2, xll_0, xlg_0_0, xlg_0_1, xlg_0_2, xlg_0_3, xlg_0_4, xlg_0_5, xlg_0_6, xlg_0_7, xlg_0_8, xlg_0_9, xlg_0_10, xlg_0_11, xlg_0_12, xlg_0_13, nvp (show i < 6 by omega) (by omega), ncl (show i < 2147483648 by omega), u_5_5, upd_s]
theorem c_T_calmKettle_i (hKb : Kb < 26) (hc : X.1 0 = tgC Kb Ks ep) (hB : kB X Kb b nm s) (hs : s 2 = nI nk) (h6 : nk ≤ 6) {i : Nat} (hi : i < nk) {v : Int32} (h2 : ¬ (v < 0 ∨ 20 < v)) : xcall E xprog (d + 2) 98 [.ref 0, .int (nI i), .int v] (sH X 43 Kb a t ms sk h') Q = Q (.inl (some (.int (a 0 i))), sH X 43 Kb (upr a 0 (upd (a 0) i v)) t ms sk h') := by
  have hc1 := fun (a : Nat → Nat → Int32) => z_0 (a := a) (t := t) (ms := ms) (sk := sk) (h := h') hc
  have hKB : kB (sH X 43 Kb a t ms sk h') Kb b nm s := sH_kB hB hKb (show 42 < 43 by omega)
  have z := fun (Q : xR → Prop) => f_T_needKettle (E := E) (d := d) (Q := Q) (hc1 a) hKB (nI i)
  have p1 : ¬ v < 0 := fun z => h2 (Or.inl z)
  have p2 : ¬ 20 < v := fun z => h2 (Or.inr z)
  rw [hs] at z
  unfold tgC at hc1
  rw [e_T_calmKettle]
  simp only [s_T_calmKettle_0, s_T_calmKettle_1, s_T_calmKettle_2, s_T_calmKettle_5, s_T_calmKettle_6, s_T_calmKettle_9, s_T_calmKettle_10, s_T_calmKettle_12, s_T_calmKettle_15, s_T_calmKettle_25, s_T_calmKettle_26, s_T_calmKettle_29, s_T_calmKettle_32, s_T_calmKettle_33, s_T_calmKettle_34, s_T_calmKettle_35, s_T_calmKettle_36, s_T_calmKettle_39, s_T_calmKettle_42, s_T_calmKettle_43, s_T_calmKettle_44, s_T_calmKettle_45, s_T_calmKettle_46, xc_of (hc1 _), xf_of (hc1 _), xll_8, xlg_8_0, xlg_8_1, xlg_8_2, xlg_8_3, xlg_8_4, xlg_8_5, xlg_8_6, not_false_eq_true, Nat.reduceLT, Nat.reduceAdd, true_and, and_true, if_true, if_false, ite_true, ite_false, xnb_0, xnb_1, xnb_b, xk_v, xk_n, z, eq_false (cl_no hi h6), eq_false p1, eq_false p2, z43F, z43C, z43W, z43l_0, z43f_0, z43l_5, z43f_5, z43l_7, z43f_7, z43w_0, z43w_5, tri_0, tri_1, tri_2, xll_0, xlg_0_0, xlg_0_1, xlg_0_2, xlg_0_3, xlg_0_4, xlg_0_5, xlg_0_6, xlg_0_7, xlg_0_8, xlg_0_9, xlg_0_10, xlg_0_11, xlg_0_12, xlg_0_13, nvp (show i < 6 by omega) (by omega), ncl (show i < 2147483648 by omega)]
theorem in_60 {c : Int32} (h : ¬ (c < 1 ∨ 60 < c)) : ∃ i, 1 ≤ i ∧ i ≤ 60 ∧ c = nI i := by
  have e1 : (60 : Int32).toInt = 60 := by decide
  have e3 : (1 : Int32).toInt = 1 := by decide
  rw [not_or, Int32.lt_iff_toInt_lt, Int32.lt_iff_toInt_lt, e1, e3] at h
  exact ⟨c.toInt.toNat, by omega, by omega, nI_tn (by omega)⟩
theorem nI_ex (h : Int32) : ∃ k, h = nI k := ⟨h.toBitVec.toNat, Int32.toBitVec_inj.mp (BitVec.eq_of_toNat_eq (Nat.mod_eq_of_lt h.toBitVec.isLt).symm)⟩
theorem c_T_sail_i (hc : X.1 0 = tgC Kb Ks ep) (hB : kB X Kb b nm s) (hK : Kb < 26) (hW : kW b s nk nc nn cnt rs re) {x : bhr} {j : Nat} (hj : j < 2147483648) (h : ¬ (nI j < 1 ∨ 60 < nI j)) : xcall E xprog (d + 8) 99 [.ref 0, .int (nI j)] (sX X 43 Kb x) Q = Q (.inl (some (.int (hrV b s nk nc nn rs re j x 0))), sX X 43 Kb (hrI b s nk nc nn rs re j x)) := by
  have z := fun (Q : xR → Prop) => f_T_needHours (E := E) (d := d + 6) (Q := Q) (X := sX X 43 Kb x) (nI j)
  have z2 := fun (Q : xR → Prop) => f_Bay_passHours (E := E) (d := d) (Q := Q) hB hK (show 42 < 43 by omega) nk nc nn cnt rs re hW j hj x
  have hc1 : (sX X 43 Kb x).1 0 = tgC Kb Ks ep := z_0 hc
  unfold tgC at hc1
  rw [e_T_sail]
  simp only [s_T_sail_0, s_T_sail_1, s_T_sail_4, s_T_sail_5, s_T_sail_8, s_T_sail_9, s_T_sail_12, not_false_eq_true, Nat.reduceLT, Nat.reduceAdd, true_and, and_true, if_true, if_false, ite_true, ite_false, xnb_0, xnb_1, xnb_b, xk_v, xk_n, z, eq_false h, xf_of hc1, xll_8, xlg_8_0, xlg_8_1, xlg_8_2, xlg_8_3, xlg_8_4, xlg_8_5, xlg_8_6, yCX (show 42 < 43 by omega), z2]
theorem mn_ok {v c : Int32} (hc : ¬ c = 0) : vf_n64 (FP.ddiv (FP.i2d v) (FP.i2d c)) := by
  have h : Jvm.FP.Core.dIsNaN (Jvm.FP.Core.ddiv (Jvm.FP.Core.i2d v) (Jvm.FP.Core.i2d c)) = false := Jvm.FP.Core.ddiv_out (Jvm.FP.Core.i2d_fin v).notNaN (Jvm.FP.Core.i2d_fin c) (fun z => Jvm.FP.Core.i2d_ne_zero hc ((Jvm.FP.Core.zero_bits2 _).mp z))
  have h2 : ¬ 9218868437227405312 < (Jvm.FP.Core.ddiv (Jvm.FP.Core.i2d v) (Jvm.FP.Core.i2d c)).toNat % 2 ^ 63 := fun z => by
    have := (Jvm.FP.Core.isNaN_bits _).mpr z
    rw [h] at this
    exact absurd this (by decide)
  show (Jvm.FP.Core.ddiv (Jvm.FP.Core.i2d v) (Jvm.FP.Core.i2d c)) &&& 0x7fffffffffffffff ≤ 0x7ff0000000000000
  rw [UInt64.le_iff_toNat_le, Jvm.FP.Core.mask_toNat]
  exact Nat.le_of_not_lt h2
theorem nI_nz (h0 : 0 < nn) (h6 : nn ≤ 6) : ¬ nI nn = 0 := fun e => absurd (nI_inj (x := nn) (y := 0) (by omega) (by omega) e) (by omega)
theorem l_T_mean (hc : X.1 0 = tgC Kb Ks ep) (hY : kY X 43 Kb a t) (h6 : nn ≤ 6) (h0 : 0 < nn) : ∀ m i z, i + m = nn →
    xr E d m_T_meanPoints Q (19, [some (.ref 0), some (.int (nI nn)), some (.int z), some (.int (nI i))], [], X) = Q (.inl (some (.double (FP.ddiv (FP.i2d (sumP (a 7) i m z)) (FP.i2d (nI nn))))), X) := by
  unfold tgC at hc
  obtain ⟨y0, y1, y2, y3, y4, y5, y6, y7, y8, y9⟩ := id hY
  intro m
  induction m with
  | zero =>
    intro i z hi
    rw [s_T_meanPoints_19]
    simp only [s_T_meanPoints_20, s_T_meanPoints_21, s_T_meanPoints_24, s_T_meanPoints_25, s_T_meanPoints_26, s_T_meanPoints_29, s_T_meanPoints_32, s_T_meanPoints_33, s_T_meanPoints_34, s_T_meanPoints_35, s_T_meanPoints_36, s_T_meanPoints_39, s_T_meanPoints_42, s_T_meanPoints_43, s_T_meanPoints_44, s_T_meanPoints_45, s_T_meanPoints_46, s_T_meanPoints_47, not_false_eq_true, Nat.reduceLT, Nat.reduceAdd, true_and, and_true, if_true, if_false, ite_true, ite_false, xnb_0, xnb_1, xnb_b, xk_v, xk_n, nge (show nn ≤ i by omega) (by omega), eq_true (mn_ok (v := z) (nI_nz h0 h6)), sumP]
  | succ m ih =>
    intro i z hi
    rw [s_T_meanPoints_19]
    simp only [s_T_meanPoints_20, s_T_meanPoints_21, s_T_meanPoints_24, s_T_meanPoints_25, s_T_meanPoints_26, s_T_meanPoints_29, s_T_meanPoints_32, s_T_meanPoints_33, s_T_meanPoints_34, s_T_meanPoints_35, s_T_meanPoints_36, s_T_meanPoints_39, s_T_meanPoints_42, s_T_meanPoints_43, s_T_meanPoints_44, s_T_meanPoints_45, s_T_meanPoints_46, s_T_meanPoints_47, not_false_eq_true, Nat.reduceLT, Nat.reduceAdd, true_and, and_true, if_true, if_false, ite_true, ite_false, xnb_0, xnb_1, xnb_b, xk_v, xk_n, nlt (show i < nn by omega) (by omega), xf_of hc, xll_8, xlg_8_0, xlg_8_1, xlg_8_2, xlg_8_3, xlg_8_4, xlg_8_5, xlg_8_6, xf_of y0, xc_of y0, xIl_of y1, xIf_of y1, xIl_of y2, xIf_of y2, xIl_of y3, xIf_of y3, xIl_of y4, xIf_of y4, xIl_of y5, xIf_of y5, xIl_of y6, xIf_of y6, xIl_of y7, xIf_of y7, xIl_of y8, xIf_of y8, xIl_of y9, xIf_of y9, xll_0, xlg_0_0, xlg_0_1, xlg_0_2, xlg_0_3, xlg_0_4, xlg_0_5, xlg_0_6, xlg_0_7, xlg_0_8, xlg_0_9, xlg_0_10, xlg_0_11, xlg_0_12, xlg_0_13, nvp (show i < 6 by omega) (by omega), ncl (show i < 2147483648 by omega), nI_1, ih (i + 1) _ (by omega), sumP]
def mnV (a : Nat → Nat → Int32) (nn : Nat) : UInt64 := if nn = 0 then FP.dconst0 else FP.ddiv (FP.i2d (sumP (a 7) 0 nn 0)) (FP.i2d (nI nn))
theorem c_T_mean (hc : X.1 0 = tgC Kb Ks ep) (hB : kB X Kb b nm s) (hY : kY X 43 Kb a t) (hs : s 4 = nI nn) (h6 : nn ≤ 6) : xcall E xprog (d + 1) 100 [.ref 0] X Q = Q (.inl (some (.double (mnV a nn))), X) := by
  have b0 := hB.1
  by_cases p : nn = 0
  · subst p
    unfold tgC at hc
    rw [e_T_meanPoints]
    simp only [s_T_meanPoints_0, s_T_meanPoints_1, s_T_meanPoints_4, s_T_meanPoints_7, s_T_meanPoints_8, s_T_meanPoints_9, s_T_meanPoints_10, s_T_meanPoints_13, s_T_meanPoints_14, xf_of hc, xll_8, xlg_8_0, xlg_8_1, xlg_8_2, xlg_8_3, xlg_8_4, xlg_8_5, xlg_8_6, xf_of b0, xll_1, xlg_1_0, xlg_1_1, xlg_1_2, xlg_1_3, xlg_1_4, xlg_1_5, xlg_1_6, xlg_1_7, xlg_1_8, xlg_1_9, xlg_1_10, xlg_1_11, xlg_1_12, xlg_1_13, xlg_1_14, xlg_1_15, xlg_1_16, hs, not_false_eq_true, Nat.reduceLT, Nat.reduceAdd, true_and, and_true, if_true, if_false, ite_true, ite_false, xnb_0, xnb_1, xnb_b, xk_v, xk_n, show (nI 0 < 1) = True from eq_true (by decide), mnV]
  · have z := fun (Q : xR → Prop) => l_T_mean (E := E) (d := d) (Q := Q) hc hY h6 (Nat.pos_of_ne_zero p) nn 0 0 (by omega)
    rw [show nI 0 = (0 : Int32) from rfl] at z
    unfold tgC at hc
    rw [e_T_meanPoints]
    simp only [s_T_meanPoints_0, s_T_meanPoints_1, s_T_meanPoints_4, s_T_meanPoints_7, s_T_meanPoints_8, s_T_meanPoints_9, s_T_meanPoints_10, s_T_meanPoints_13, s_T_meanPoints_14, s_T_meanPoints_15, s_T_meanPoints_16, s_T_meanPoints_17, s_T_meanPoints_18, xf_of hc, xll_8, xlg_8_0, xlg_8_1, xlg_8_2, xlg_8_3, xlg_8_4, xlg_8_5, xlg_8_6, xf_of b0, xll_1, xlg_1_0, xlg_1_1, xlg_1_2, xlg_1_3, xlg_1_4, xlg_1_5, xlg_1_6, xlg_1_7, xlg_1_8, xlg_1_9, xlg_1_10, xlg_1_11, xlg_1_12, xlg_1_13, xlg_1_14, xlg_1_15, xlg_1_16, hs, not_false_eq_true, Nat.reduceLT, Nat.reduceAdd, true_and, and_true, if_true, if_false, ite_true, ite_false, xnb_0, xnb_1, xnb_b, xk_v, xk_n, show (nI nn < 1) = False from eq_false (by rw [nI_l1 nn (by omega)]; omega), z, mnV, if_neg p]
end TDO
