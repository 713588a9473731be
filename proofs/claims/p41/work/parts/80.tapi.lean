/-! ===== what the class's methods answer ===== -/
section TAPI
variable {E : xE} {d D n n' Ln Mn j : Nat} {Q : xR → Prop} {X X1 X' H : xH} {Kb Ks Kt K l : Nat} {ep th k v : Int32} {T : Nat → Nat} {tp : Nat → Int32} {b : Nat → Nat → Int32} {nm : Nat → Int64} {s : Nat → Int32} {a a' : Nat → Nat → Int32} {t t' : Nat → Int32} {co ro nk nc nn cnt : Nat} {rs re : Nat → Nat} {ms sk : Nat → Int32} {sz ea h : Int32} {h' : Int32} {q : Nat → Int32}
/-- the class's part: the regatta at 0 -/
def ivC (X : xH) (Kb Ks l : Nat) (ep : Int32) (tp : Nat → Int32) (b : Nat → Nat → Int32) (nm : Nat → Int64) (s : Nat → Int32) (a : Nat → Nat → Int32) (t : Nat → Int32) : Prop :=
  X.1 0 = tgC Kb Ks ep ∧ ((Kb = 10 ∧ Ks = 25) ∨ (Kb = 25 ∧ Ks = 10)) ∧
  (∃ (er ep' cc cr cnt nx : Int32) (kd st : Nat → Int32) (vl wd : Nat → Int64), rT X tp (nI l) er ep' cc cr cnt nx kd st vl wd ∧ ∀ i, i < 26 → wd i = W32 i) ∧
  kB X Kb b nm s ∧ (∃ (b' : Nat → Nat → Int32) (nm' : Nat → Int64) (s' : Nat → Int32), kB X Ks b' nm' s') ∧ kY X 43 Kb a t ∧
  (∃ (ms sk : Nat → Int32) (h : Int32), kT X ms sk h) ∧ (∃ (Kt : Nat) (a' : Nat → Nat → Int32) (t' : Nat → Int32), kY X 53 Kt a' t')
theorem ivC_eq (h : ivC X Kb Ks l ep tp b nm s a t) (e : ∀ n, n ≤ 62 → X'.1 n = X.1 n) : ivC X' Kb Ks l ep tp b nm s a t := by
  obtain ⟨h1, h2, ⟨er, ep', cc, cr, cnt, nx, kd, st, vl, wd, h3, h3'⟩, h4, ⟨b', nm', s', h5⟩, h6, ⟨ms, sk, hh, h7⟩, ⟨Kt, a', t', h8⟩⟩ := h
  refine ⟨?_, h2, ⟨er, ep', cc, cr, cnt, nx, kd, st, vl, wd, rT_eq h3 (fun n _ p => e n (by omega)), h3'⟩, kB_eq h4 (fun n _ p => e n (by omega)), ⟨b', nm', s', kB_eq h5 (fun n _ p => e n (by omega))⟩, kY_eq h6 (fun n _ p => e n (by omega)), ⟨ms, sk, hh, kT_eq h7 (fun n _ p => e n (by omega))⟩, ⟨Kt, a', t', kY_eq h8 (fun n _ p => e n (by omega))⟩⟩
  rw [e 0 (by omega)]
  exact h1
theorem c_T_columnOf (hc : X.1 0 = tgC Kb Ks ep) (hB : kB X Kb b nm s) (hY : kY X 43 Kb a t) (hs : s 4 = nI nn) (h6 : nn ≤ 6) (c : Int32) : xcall E xprog (d + 2) 83 [.ref 0, .int c] X Q = if c < 0 ∨ ¬ c < nI nn then Q (.inr 15, xnew X (.inr (15, [])) 6) else Q (.inl (some (.int (a 3 c.toNatClampNeg))), X) := by
  have z := fun (Q : xR → Prop) => f_T_needClipper (E := E) (d := d) (Q := Q) hc hB c
  rw [hs] at z
  unfold tgC at hc
  obtain ⟨y0, y1, y2, y3, y4, y5, y6, y7, y8, y9⟩ := id hY
  rw [e_T_columnOf]
  by_cases h : c < 0 ∨ ¬ c < nI nn
  · simp only [s_T_columnOf_0, s_T_columnOf_1, s_T_columnOf_2, xc_of hc, not_false_eq_true, Nat.reduceLT, Nat.reduceAdd, true_and, and_true, if_true, if_false, ite_true, ite_false, xnb_0, xnb_1, xnb_b, xk_v, xk_n, z, eq_true h, xk_x (y := m_T_columnOf) rfl]
  · have h1 : ¬ c < 0 := fun r => h (Or.inl r)
    have h2 : c < nI nn := Decidable.byContradiction fun r => h (Or.inr r)
    obtain ⟨i, hi, rfl⟩ := rng_ex h6 h1 h2
    simp only [s_T_columnOf_0, s_T_columnOf_1, s_T_columnOf_2, s_T_columnOf_5, s_T_columnOf_6, s_T_columnOf_9, s_T_columnOf_12, s_T_columnOf_13, s_T_columnOf_14, xc_of hc, xf_of hc, xll_8, xlg_8_0, xlg_8_1, xlg_8_2, xlg_8_3, xlg_8_4, xlg_8_5, xlg_8_6, xf_of y0, xc_of y0, xIl_of y1, xIf_of y1, xIl_of y2, xIf_of y2, xIl_of y3, xIf_of y3, xIl_of y4, xIf_of y4, xIl_of y5, xIf_of y5, xIl_of y6, xIf_of y6, xIl_of y7, xIf_of y7, xIl_of y8, xIf_of y8, xIl_of y9, xIf_of y9, xll_0, xlg_0_0, xlg_0_1, xlg_0_2, xlg_0_3, xlg_0_4, xlg_0_5, xlg_0_6, xlg_0_7, xlg_0_8, xlg_0_9, xlg_0_10, xlg_0_11, xlg_0_12, xlg_0_13, not_false_eq_true, Nat.reduceLT, Nat.reduceAdd, true_and, and_true, if_true, if_false, ite_true, ite_false, xnb_0, xnb_1, xnb_b, xk_v, xk_n, z, eq_false h, nvp (show i < 6 by omega) (by omega), ncl (show i < 2147483648 by omega)]
theorem c_T_rowOf (hc : X.1 0 = tgC Kb Ks ep) (hB : kB X Kb b nm s) (hY : kY X 43 Kb a t) (hs : s 4 = nI nn) (h6 : nn ≤ 6) (c : Int32) : xcall E xprog (d + 2) 84 [.ref 0, .int c] X Q = if c < 0 ∨ ¬ c < nI nn then Q (.inr 15, xnew X (.inr (15, [])) 6) else Q (.inl (some (.int (a 4 c.toNatClampNeg))), X) := by
  have z := fun (Q : xR → Prop) => f_T_needClipper (E := E) (d := d) (Q := Q) hc hB c
  rw [hs] at z
  unfold tgC at hc
  obtain ⟨y0, y1, y2, y3, y4, y5, y6, y7, y8, y9⟩ := id hY
  rw [e_T_rowOf]
  by_cases h : c < 0 ∨ ¬ c < nI nn
  · simp only [s_T_rowOf_0, s_T_rowOf_1, s_T_rowOf_2, xc_of hc, not_false_eq_true, Nat.reduceLT, Nat.reduceAdd, true_and, and_true, if_true, if_false, ite_true, ite_false, xnb_0, xnb_1, xnb_b, xk_v, xk_n, z, eq_true h, xk_x (y := m_T_rowOf) rfl]
  · have h1 : ¬ c < 0 := fun r => h (Or.inl r)
    have h2 : c < nI nn := Decidable.byContradiction fun r => h (Or.inr r)
    obtain ⟨i, hi, rfl⟩ := rng_ex h6 h1 h2
    simp only [s_T_rowOf_0, s_T_rowOf_1, s_T_rowOf_2, s_T_rowOf_5, s_T_rowOf_6, s_T_rowOf_9, s_T_rowOf_12, s_T_rowOf_13, s_T_rowOf_14, xc_of hc, xf_of hc, xll_8, xlg_8_0, xlg_8_1, xlg_8_2, xlg_8_3, xlg_8_4, xlg_8_5, xlg_8_6, xf_of y0, xc_of y0, xIl_of y1, xIf_of y1, xIl_of y2, xIf_of y2, xIl_of y3, xIf_of y3, xIl_of y4, xIf_of y4, xIl_of y5, xIf_of y5, xIl_of y6, xIf_of y6, xIl_of y7, xIf_of y7, xIl_of y8, xIf_of y8, xIl_of y9, xIf_of y9, xll_0, xlg_0_0, xlg_0_1, xlg_0_2, xlg_0_3, xlg_0_4, xlg_0_5, xlg_0_6, xlg_0_7, xlg_0_8, xlg_0_9, xlg_0_10, xlg_0_11, xlg_0_12, xlg_0_13, not_false_eq_true, Nat.reduceLT, Nat.reduceAdd, true_and, and_true, if_true, if_false, ite_true, ite_false, xnb_0, xnb_1, xnb_b, xk_v, xk_n, z, eq_false h, nvp (show i < 6 by omega) (by omega), ncl (show i < 2147483648 by omega)]
theorem c_T_leafOf (hc : X.1 0 = tgC Kb Ks ep) (hB : kB X Kb b nm s) (hY : kY X 43 Kb a t) (hs : s 4 = nI nn) (h6 : nn ≤ 6) (c : Int32) : xcall E xprog (d + 2) 86 [.ref 0, .int c] X Q = if c < 0 ∨ ¬ c < nI nn then Q (.inr 15, xnew X (.inr (15, [])) 6) else Q (.inl (some (.int (a 5 c.toNatClampNeg))), X) := by
  have z := fun (Q : xR → Prop) => f_T_needClipper (E := E) (d := d) (Q := Q) hc hB c
  rw [hs] at z
  unfold tgC at hc
  obtain ⟨y0, y1, y2, y3, y4, y5, y6, y7, y8, y9⟩ := id hY
  rw [e_T_leafOf]
  by_cases h : c < 0 ∨ ¬ c < nI nn
  · simp only [s_T_leafOf_0, s_T_leafOf_1, s_T_leafOf_2, xc_of hc, not_false_eq_true, Nat.reduceLT, Nat.reduceAdd, true_and, and_true, if_true, if_false, ite_true, ite_false, xnb_0, xnb_1, xnb_b, xk_v, xk_n, z, eq_true h, xk_x (y := m_T_leafOf) rfl]
  · have h1 : ¬ c < 0 := fun r => h (Or.inl r)
    have h2 : c < nI nn := Decidable.byContradiction fun r => h (Or.inr r)
    obtain ⟨i, hi, rfl⟩ := rng_ex h6 h1 h2
    simp only [s_T_leafOf_0, s_T_leafOf_1, s_T_leafOf_2, s_T_leafOf_5, s_T_leafOf_6, s_T_leafOf_9, s_T_leafOf_12, s_T_leafOf_13, s_T_leafOf_14, xc_of hc, xf_of hc, xll_8, xlg_8_0, xlg_8_1, xlg_8_2, xlg_8_3, xlg_8_4, xlg_8_5, xlg_8_6, xf_of y0, xc_of y0, xIl_of y1, xIf_of y1, xIl_of y2, xIf_of y2, xIl_of y3, xIf_of y3, xIl_of y4, xIf_of y4, xIl_of y5, xIf_of y5, xIl_of y6, xIf_of y6, xIl_of y7, xIf_of y7, xIl_of y8, xIf_of y8, xIl_of y9, xIf_of y9, xll_0, xlg_0_0, xlg_0_1, xlg_0_2, xlg_0_3, xlg_0_4, xlg_0_5, xlg_0_6, xlg_0_7, xlg_0_8, xlg_0_9, xlg_0_10, xlg_0_11, xlg_0_12, xlg_0_13, not_false_eq_true, Nat.reduceLT, Nat.reduceAdd, true_and, and_true, if_true, if_false, ite_true, ite_false, xnb_0, xnb_1, xnb_b, xk_v, xk_n, z, eq_false h, nvp (show i < 6 by omega) (by omega), ncl (show i < 2147483648 by omega)]
theorem c_T_wayOf (hc : X.1 0 = tgC Kb Ks ep) (hB : kB X Kb b nm s) (hY : kY X 43 Kb a t) (hs : s 4 = nI nn) (h6 : nn ≤ 6) (c : Int32) : xcall E xprog (d + 2) 87 [.ref 0, .int c] X Q = if c < 0 ∨ ¬ c < nI nn then Q (.inr 15, xnew X (.inr (15, [])) 6) else Q (.inl (some (.int (a 6 c.toNatClampNeg))), X) := by
  have z := fun (Q : xR → Prop) => f_T_needClipper (E := E) (d := d) (Q := Q) hc hB c
  rw [hs] at z
  unfold tgC at hc
  obtain ⟨y0, y1, y2, y3, y4, y5, y6, y7, y8, y9⟩ := id hY
  rw [e_T_wayOf]
  by_cases h : c < 0 ∨ ¬ c < nI nn
  · simp only [s_T_wayOf_0, s_T_wayOf_1, s_T_wayOf_2, xc_of hc, not_false_eq_true, Nat.reduceLT, Nat.reduceAdd, true_and, and_true, if_true, if_false, ite_true, ite_false, xnb_0, xnb_1, xnb_b, xk_v, xk_n, z, eq_true h, xk_x (y := m_T_wayOf) rfl]
  · have h1 : ¬ c < 0 := fun r => h (Or.inl r)
    have h2 : c < nI nn := Decidable.byContradiction fun r => h (Or.inr r)
    obtain ⟨i, hi, rfl⟩ := rng_ex h6 h1 h2
    simp only [s_T_wayOf_0, s_T_wayOf_1, s_T_wayOf_2, s_T_wayOf_5, s_T_wayOf_6, s_T_wayOf_9, s_T_wayOf_12, s_T_wayOf_13, s_T_wayOf_14, xc_of hc, xf_of hc, xll_8, xlg_8_0, xlg_8_1, xlg_8_2, xlg_8_3, xlg_8_4, xlg_8_5, xlg_8_6, xf_of y0, xc_of y0, xIl_of y1, xIf_of y1, xIl_of y2, xIf_of y2, xIl_of y3, xIf_of y3, xIl_of y4, xIf_of y4, xIl_of y5, xIf_of y5, xIl_of y6, xIf_of y6, xIl_of y7, xIf_of y7, xIl_of y8, xIf_of y8, xIl_of y9, xIf_of y9, xll_0, xlg_0_0, xlg_0_1, xlg_0_2, xlg_0_3, xlg_0_4, xlg_0_5, xlg_0_6, xlg_0_7, xlg_0_8, xlg_0_9, xlg_0_10, xlg_0_11, xlg_0_12, xlg_0_13, not_false_eq_true, Nat.reduceLT, Nat.reduceAdd, true_and, and_true, if_true, if_false, ite_true, ite_false, xnb_0, xnb_1, xnb_b, xk_v, xk_n, z, eq_false h, nvp (show i < 6 by omega) (by omega), ncl (show i < 2147483648 by omega)]
theorem c_T_pointsOf (hc : X.1 0 = tgC Kb Ks ep) (hB : kB X Kb b nm s) (hY : kY X 43 Kb a t) (hs : s 4 = nI nn) (h6 : nn ≤ 6) (c : Int32) : xcall E xprog (d + 2) 89 [.ref 0, .int c] X Q = if c < 0 ∨ ¬ c < nI nn then Q (.inr 15, xnew X (.inr (15, [])) 6) else Q (.inl (some (.int (a 7 c.toNatClampNeg))), X) := by
  have z := fun (Q : xR → Prop) => f_T_needClipper (E := E) (d := d) (Q := Q) hc hB c
  rw [hs] at z
  unfold tgC at hc
  obtain ⟨y0, y1, y2, y3, y4, y5, y6, y7, y8, y9⟩ := id hY
  rw [e_T_pointsOf]
  by_cases h : c < 0 ∨ ¬ c < nI nn
  · simp only [s_T_pointsOf_0, s_T_pointsOf_1, s_T_pointsOf_2, xc_of hc, not_false_eq_true, Nat.reduceLT, Nat.reduceAdd, true_and, and_true, if_true, if_false, ite_true, ite_false, xnb_0, xnb_1, xnb_b, xk_v, xk_n, z, eq_true h, xk_x (y := m_T_pointsOf) rfl]
  · have h1 : ¬ c < 0 := fun r => h (Or.inl r)
    have h2 : c < nI nn := Decidable.byContradiction fun r => h (Or.inr r)
    obtain ⟨i, hi, rfl⟩ := rng_ex h6 h1 h2
    simp only [s_T_pointsOf_0, s_T_pointsOf_1, s_T_pointsOf_2, s_T_pointsOf_5, s_T_pointsOf_6, s_T_pointsOf_9, s_T_pointsOf_12, s_T_pointsOf_13, s_T_pointsOf_14, xc_of hc, xf_of hc, xll_8, xlg_8_0, xlg_8_1, xlg_8_2, xlg_8_3, xlg_8_4, xlg_8_5, xlg_8_6, xf_of y0, xc_of y0, xIl_of y1, xIf_of y1, xIl_of y2, xIf_of y2, xIl_of y3, xIf_of y3, xIl_of y4, xIf_of y4, xIl_of y5, xIf_of y5, xIl_of y6, xIf_of y6, xIl_of y7, xIf_of y7, xIl_of y8, xIf_of y8, xIl_of y9, xIf_of y9, xll_0, xlg_0_0, xlg_0_1, xlg_0_2, xlg_0_3, xlg_0_4, xlg_0_5, xlg_0_6, xlg_0_7, xlg_0_8, xlg_0_9, xlg_0_10, xlg_0_11, xlg_0_12, xlg_0_13, not_false_eq_true, Nat.reduceLT, Nat.reduceAdd, true_and, and_true, if_true, if_false, ite_true, ite_false, xnb_0, xnb_1, xnb_b, xk_v, xk_n, z, eq_false h, nvp (show i < 6 by omega) (by omega), ncl (show i < 2147483648 by omega)]
theorem c_T_sipsOf (hc : X.1 0 = tgC Kb Ks ep) (hB : kB X Kb b nm s) (hY : kY X 43 Kb a t) (hs : s 4 = nI nn) (h6 : nn ≤ 6) (c : Int32) : xcall E xprog (d + 2) 90 [.ref 0, .int c] X Q = if c < 0 ∨ ¬ c < nI nn then Q (.inr 15, xnew X (.inr (15, [])) 6) else Q (.inl (some (.int (a 8 c.toNatClampNeg))), X) := by
  have z := fun (Q : xR → Prop) => f_T_needClipper (E := E) (d := d) (Q := Q) hc hB c
  rw [hs] at z
  unfold tgC at hc
  obtain ⟨y0, y1, y2, y3, y4, y5, y6, y7, y8, y9⟩ := id hY
  rw [e_T_sipsOf]
  by_cases h : c < 0 ∨ ¬ c < nI nn
  · simp only [s_T_sipsOf_0, s_T_sipsOf_1, s_T_sipsOf_2, xc_of hc, not_false_eq_true, Nat.reduceLT, Nat.reduceAdd, true_and, and_true, if_true, if_false, ite_true, ite_false, xnb_0, xnb_1, xnb_b, xk_v, xk_n, z, eq_true h, xk_x (y := m_T_sipsOf) rfl]
  · have h1 : ¬ c < 0 := fun r => h (Or.inl r)
    have h2 : c < nI nn := Decidable.byContradiction fun r => h (Or.inr r)
    obtain ⟨i, hi, rfl⟩ := rng_ex h6 h1 h2
    simp only [s_T_sipsOf_0, s_T_sipsOf_1, s_T_sipsOf_2, s_T_sipsOf_5, s_T_sipsOf_6, s_T_sipsOf_9, s_T_sipsOf_12, s_T_sipsOf_13, s_T_sipsOf_14, xc_of hc, xf_of hc, xll_8, xlg_8_0, xlg_8_1, xlg_8_2, xlg_8_3, xlg_8_4, xlg_8_5, xlg_8_6, xf_of y0, xc_of y0, xIl_of y1, xIf_of y1, xIl_of y2, xIf_of y2, xIl_of y3, xIf_of y3, xIl_of y4, xIf_of y4, xIl_of y5, xIf_of y5, xIl_of y6, xIf_of y6, xIl_of y7, xIf_of y7, xIl_of y8, xIf_of y8, xIl_of y9, xIf_of y9, xll_0, xlg_0_0, xlg_0_1, xlg_0_2, xlg_0_3, xlg_0_4, xlg_0_5, xlg_0_6, xlg_0_7, xlg_0_8, xlg_0_9, xlg_0_10, xlg_0_11, xlg_0_12, xlg_0_13, not_false_eq_true, Nat.reduceLT, Nat.reduceAdd, true_and, and_true, if_true, if_false, ite_true, ite_false, xnb_0, xnb_1, xnb_b, xk_v, xk_n, z, eq_false h, nvp (show i < 6 by omega) (by omega), ncl (show i < 2147483648 by omega)]
theorem c_T_becalmedFor_i (hc : X.1 0 = tgC Kb Ks ep) (hB : kB X Kb b nm s) (hY : kY X 43 Kb a t) (hs : s 2 = nI nk) (h6 : nk ≤ 6) {i : Nat} (hi : i < nk) : xcall E xprog (d + 3) 78 [.ref 0, .int (nI i)] X Q = Q (.inl (some (.int (a 0 i))), X) := by
  have z := fun (Q : xR → Prop) => f_T_needKettle (E := E) (d := d + 1) (Q := Q) hc hB (nI i)
  rw [hs] at z
  have h : ¬ (nI i < 0 ∨ ¬ nI i < nI nk) := by
    rw [nI_n0 i (by omega), n_lt (by omega) (by omega)]
    exact fun r => r.elim id (fun z => z hi)
  unfold tgC at hc
  obtain ⟨y0, y1, y2, y3, y4, y5, y6, y7, y8, y9⟩ := id hY
  rw [e_T_becalmedFor]
  simp only [s_T_becalmedFor_0, s_T_becalmedFor_1, s_T_becalmedFor_2, s_T_becalmedFor_5, s_T_becalmedFor_6, s_T_becalmedFor_9, s_T_becalmedFor_12, s_T_becalmedFor_13, s_T_becalmedFor_14, xc_of hc, xf_of hc, xll_8, xlg_8_0, xlg_8_1, xlg_8_2, xlg_8_3, xlg_8_4, xlg_8_5, xlg_8_6, xf_of y0, xc_of y0, xIl_of y1, xIf_of y1, xIl_of y2, xIf_of y2, xIl_of y3, xIf_of y3, xIl_of y4, xIf_of y4, xIl_of y5, xIf_of y5, xIl_of y6, xIf_of y6, xIl_of y7, xIf_of y7, xIl_of y8, xIf_of y8, xIl_of y9, xIf_of y9, xll_0, xlg_0_0, xlg_0_1, xlg_0_2, xlg_0_3, xlg_0_4, xlg_0_5, xlg_0_6, xlg_0_7, xlg_0_8, xlg_0_9, xlg_0_10, xlg_0_11, xlg_0_12, xlg_0_13, not_false_eq_true, Nat.reduceLT, Nat.reduceAdd, true_and, and_true, if_true, if_false, ite_true, ite_false, xnb_0, xnb_1, xnb_b, xk_v, xk_n, z, eq_false h, nvp (show i < 6 by omega) (by omega), ncl (show i < 2147483648 by omega)]
theorem c_T_visitsTo_i (hc : X.1 0 = tgC Kb Ks ep) (hB : kB X Kb b nm s) (hY : kY X 43 Kb a t) (hs : s 2 = nI nk) (h6 : nk ≤ 6) {i : Nat} (hi : i < nk) : xcall E xprog (d + 3) 79 [.ref 0, .int (nI i)] X Q = Q (.inl (some (.int (a 2 i))), X) := by
  have z := fun (Q : xR → Prop) => f_T_needKettle (E := E) (d := d + 1) (Q := Q) hc hB (nI i)
  rw [hs] at z
  have h : ¬ (nI i < 0 ∨ ¬ nI i < nI nk) := by
    rw [nI_n0 i (by omega), n_lt (by omega) (by omega)]
    exact fun r => r.elim id (fun z => z hi)
  unfold tgC at hc
  obtain ⟨y0, y1, y2, y3, y4, y5, y6, y7, y8, y9⟩ := id hY
  rw [e_T_visitsTo]
  simp only [s_T_visitsTo_0, s_T_visitsTo_1, s_T_visitsTo_2, s_T_visitsTo_5, s_T_visitsTo_6, s_T_visitsTo_9, s_T_visitsTo_12, s_T_visitsTo_13, s_T_visitsTo_14, xc_of hc, xf_of hc, xll_8, xlg_8_0, xlg_8_1, xlg_8_2, xlg_8_3, xlg_8_4, xlg_8_5, xlg_8_6, xf_of y0, xc_of y0, xIl_of y1, xIf_of y1, xIl_of y2, xIf_of y2, xIl_of y3, xIf_of y3, xIl_of y4, xIf_of y4, xIl_of y5, xIf_of y5, xIl_of y6, xIf_of y6, xIl_of y7, xIf_of y7, xIl_of y8, xIf_of y8, xIl_of y9, xIf_of y9, xll_0, xlg_0_0, xlg_0_1, xlg_0_2, xlg_0_3, xlg_0_4, xlg_0_5, xlg_0_6, xlg_0_7, xlg_0_8, xlg_0_9, xlg_0_10, xlg_0_11, xlg_0_12, xlg_0_13, not_false_eq_true, Nat.reduceLT, Nat.reduceAdd, true_and, and_true, if_true, if_false, ite_true, ite_false, xnb_0, xnb_1, xnb_b, xk_v, xk_n, z, eq_false h, nvp (show i < 6 by omega) (by omega), ncl (show i < 2147483648 by omega)]
theorem c_T_speedOf_i (hc : X.1 0 = tgC Kb Ks ep) (hB : kB X Kb b nm s) (hY : kY X 43 Kb a t) (hs : s 4 = nI nn) (h6 : nn ≤ 6) {i : Nat} (hi : i < nn) : xcall E xprog (d + 3) 88 [.ref 0, .int (nI i)] X Q = Q (.inl (some (.int (spdC a t i))), X) := by
  have z := fun (Q : xR → Prop) => f_T_needClipper (E := E) (d := d + 1) (Q := Q) hc hB (nI i)
  rw [hs] at z
  have h : ¬ (nI i < 0 ∨ ¬ nI i < nI nn) := by
    rw [nI_n0 i (by omega), n_lt (by omega) (by omega)]
    exact fun r => r.elim id (fun z => z hi)
  unfold tgC at hc
  obtain ⟨y0, y1, y2, y3, y4, y5, y6, y7, y8, y9⟩ := id hY
  rw [e_T_speedOf]
  simp only [s_T_speedOf_0, s_T_speedOf_1, s_T_speedOf_2, s_T_speedOf_5, s_T_speedOf_6, s_T_speedOf_9, s_T_speedOf_10, s_T_speedOf_13, xc_of hc, xf_of hc, xll_8, xlg_8_0, xlg_8_1, xlg_8_2, xlg_8_3, xlg_8_4, xlg_8_5, xlg_8_6, xf_of y0, xc_of y0, xIl_of y1, xIf_of y1, xIl_of y2, xIf_of y2, xIl_of y3, xIf_of y3, xIl_of y4, xIf_of y4, xIl_of y5, xIf_of y5, xIl_of y6, xIf_of y6, xIl_of y7, xIf_of y7, xIl_of y8, xIf_of y8, xIl_of y9, xIf_of y9, xll_0, xlg_0_0, xlg_0_1, xlg_0_2, xlg_0_3, xlg_0_4, xlg_0_5, xlg_0_6, xlg_0_7, xlg_0_8, xlg_0_9, xlg_0_10, xlg_0_11, xlg_0_12, xlg_0_13, not_false_eq_true, Nat.reduceLT, Nat.reduceAdd, true_and, and_true, if_true, if_false, ite_true, ite_false, xnb_0, xnb_1, xnb_b, xk_v, xk_n, z, eq_false h, nvp (show i < 6 by omega) (by omega), ncl (show i < 2147483648 by omega), f_Bay_wayOfAnHour hY i (show i < 6 by omega), spdC]
theorem c_T_isHome_i (hc : X.1 0 = tgC Kb Ks ep) (hB : kB X Kb b nm s) (hY : kY X 43 Kb a t) (hs : s 4 = nI nn) (h6 : nn ≤ 6) {i : Nat} (hi : i < nn) : xcall E xprog (d + 3) 85 [.ref 0, .int (nI i)] X Q = Q (.inl (some (.int (xb (a 3 i = b 7 i ∧ a 4 i = b 8 i)))), X) := by
  have z := fun (Q : xR → Prop) => f_T_needClipper (E := E) (d := d + 1) (Q := Q) hc hB (nI i)
  rw [hs] at z
  have h : ¬ (nI i < 0 ∨ ¬ nI i < nI nn) := by
    rw [nI_n0 i (by omega), n_lt (by omega) (by omega)]
    exact fun r => r.elim id (fun z => z hi)
  unfold tgC at hc
  have y0 := hY.1
  rw [e_T_isHome]
  simp only [s_T_isHome_0, s_T_isHome_1, s_T_isHome_2, s_T_isHome_5, s_T_isHome_6, s_T_isHome_9, s_T_isHome_10, s_T_isHome_13, xc_of hc, xf_of hc, xll_8, xlg_8_0, xlg_8_1, xlg_8_2, xlg_8_3, xlg_8_4, xlg_8_5, xlg_8_6, xc_of y0, not_false_eq_true, Nat.reduceLT, Nat.reduceAdd, true_and, and_true, if_true, if_false, ite_true, ite_false, xnb_0, xnb_1, xnb_b, xk_v, xk_n, z, eq_false h, f_Bay_isAtHome hB hY i (show i < 6 by omega)]
theorem f_T_needCell (hc : X.1 0 = tgC Kb Ks ep) (hB : kB X Kb b nm s) (x y : Int32) : xcall E xprog (d + 2) 101 [.ref 0, .int x, .int y] X Q = if celC s x y = 0 then Q (.inr 15, xnew X (.inr (15, [])) 6) else Q (.inl none, X) := by
  have z := fun (Q : xR → Prop) => f_cell (E := E) (d := d) (Q := Q) hB x y
  have b0 := hB.1
  unfold tgC at hc
  rw [e_T_needCell]
  simp only [s_T_needCell_0, s_T_needCell_1, s_T_needCell_4, s_T_needCell_5, s_T_needCell_6, s_T_needCell_9, s_T_needCell_12, s_T_needCell_22, xf_of hc, xll_8, xlg_8_0, xlg_8_1, xlg_8_2, xlg_8_3, xlg_8_4, xlg_8_5, xlg_8_6, xc_of b0, not_false_eq_true, Nat.reduceLT, Nat.reduceAdd, true_and, and_true, if_true, if_false, ite_true, ite_false, xnb_0, xnb_1, xnb_b, xk_v, xk_n, z, t_T_needCell_21]
theorem c_T_aromaAt (hc : X.1 0 = tgC Kb Ks ep) (hB : kB X Kb b nm s) (hY : kY X 43 Kb a t) (hs : s 2 = nI nk) (h6 : nk ≤ 6) (x y : Int32) : xcall E xprog (d + 3) 77 [.ref 0, .int x, .int y] X Q = if celC s x y = 0 then Q (.inr 15, xnew X (.inr (15, [])) 6) else Q (.inl (some (.int (aroC a t b nk x y))), X) := by
  have z := fun (Q : xR → Prop) => f_T_needCell (E := E) (d := d) (Q := Q) hc hB x y
  have y0 := hY.1
  unfold tgC at hc
  rw [e_T_aromaAt]
  by_cases h : celC s x y = 0
  · simp only [s_T_aromaAt_0, s_T_aromaAt_1, s_T_aromaAt_2, s_T_aromaAt_3, s_T_aromaAt_6, s_T_aromaAt_7, s_T_aromaAt_10, s_T_aromaAt_11, s_T_aromaAt_12, s_T_aromaAt_15, xc_of hc, not_false_eq_true, Nat.reduceLT, Nat.reduceAdd, true_and, and_true, if_true, if_false, ite_true, ite_false, xnb_0, xnb_1, xnb_b, xk_v, xk_n, z, eq_true h, xk_x (y := m_T_aromaAt) rfl]
  · simp only [s_T_aromaAt_0, s_T_aromaAt_1, s_T_aromaAt_2, s_T_aromaAt_3, s_T_aromaAt_6, s_T_aromaAt_7, s_T_aromaAt_10, s_T_aromaAt_11, s_T_aromaAt_12, s_T_aromaAt_15, xc_of hc, xf_of hc, xll_8, xlg_8_0, xlg_8_1, xlg_8_2, xlg_8_3, xlg_8_4, xlg_8_5, xlg_8_6, xc_of y0, not_false_eq_true, Nat.reduceLT, Nat.reduceAdd, true_and, and_true, if_true, if_false, ite_true, ite_false, xnb_0, xnb_1, xnb_b, xk_v, xk_n, z, eq_false h, f_Bay_aroma hB hY nk hs h6]
theorem dir_in (c : Int32) : (¬ c < 0 ∧ ¬ 3 < c) ↔ ¬ (c < 0 ∨ ¬ c < 4) := by
  have e1 : (3 : Int32).toInt = 3 := by decide
  have e2 : (4 : Int32).toInt = 4 := by decide
  have e3 : (0 : Int32).toInt = 0 := by decide
  simp only [Int32.lt_iff_toInt_lt, e1, e2, e3]
  omega
theorem cli_in {c : Int32} (h6 : nn ≤ 6) (hq : q 4 = nI nn) : (¬ c < 0 ∧ ¬ q 4 - 1 < c) ↔ ¬ (c < 0 ∨ ¬ c < nI nn) := by
  rw [hq, rng_in h6]
  exact ⟨fun h r => r.elim h.1 (fun z => z h.2), fun h => ⟨fun r => h (Or.inl r), Decidable.byContradiction fun r => h (Or.inr r)⟩⟩
theorem c_T_smells_i (hc : X.1 0 = tgC Kb Ks ep) (hB : kB X Kb b nm s) (hY : kY X 43 Kb a t) (hs : s 4 = nI nn) (h6 : nn ≤ 6) (hn : s 2 = nI nk) (hk : nk ≤ 6) {i : Nat} (hi : i < nn) {r : Int32} (hr : ¬ (r < 0 ∨ ¬ r < 4)) : xcall E xprog (d + 4) 91 [.ref 0, .int (nI i), .int r] X Q = Q (.inl (some (.int (smeC a b t s nk i r))), X) := by
  have z := fun (Q : xR → Prop) => f_T_needClipper (E := E) (d := d + 2) (Q := Q) hc hB (nI i)
  have z2 := fun (Q : xR → Prop) => f_T_needDirection (E := E) (d := d + 2) (Q := Q) (X := X) r
  rw [hs] at z
  have h : ¬ (nI i < 0 ∨ ¬ nI i < nI nn) := by
    rw [nI_n0 i (by omega), n_lt (by omega) (by omega)]
    exact fun r => r.elim id (fun z => z hi)
  have y0 := hY.1
  unfold tgC at hc
  rw [e_T_smells]
  simp only [s_T_smells_0, s_T_smells_1, s_T_smells_2, s_T_smells_5, s_T_smells_6, s_T_smells_9, s_T_smells_10, s_T_smells_13, s_T_smells_14, s_T_smells_15, s_T_smells_18, xc_of hc, xf_of hc, xll_8, xlg_8_0, xlg_8_1, xlg_8_2, xlg_8_3, xlg_8_4, xlg_8_5, xlg_8_6, xc_of y0, not_false_eq_true, Nat.reduceLT, Nat.reduceAdd, true_and, and_true, if_true, if_false, ite_true, ite_false, xnb_0, xnb_1, xnb_b, xk_v, xk_n, z, z2, eq_false h, eq_false hr, f_Bay_smell hB hY nk hn hk i (show i < 6 by omega)]
def tpC (j : Nat) : xC := .inr (6, [.ref 2, .int (nI j)])
theorem c_T_trim_i (hc : X.1 0 = tgC Kb Ks ep) (ht : X.1 1 = .inr (6, [.ref 2, .int (nI l)])) (h : ¬ (nI j < 0 ∨ nI l < nI j)) : xcall E xprog (d + 3) 69 [.ref 0, .int (nI j)] X Q = Q (.inl (some (.int (nI j))), xset X 1 (tpC j)) := by
  have h1 : ¬ nI j < 0 := fun z => h (Or.inl z)
  have h2 : ¬ nI l < nI j := fun z => h (Or.inr z)
  unfold tgC at hc
  unfold tpC
  rw [e_T_trim]
  simp only [s_T_trim_0, s_T_trim_1, s_T_trim_4, s_T_trim_5, s_T_trim_6, s_T_trim_9, s_T_trim_12, s_T_trim_15, s_T_trim_25, s_T_trim_26, s_T_trim_29, s_T_trim_30, s_T_trim_33, s_T_trim_34, xf_of hc, xf_of ht, xll_8, xlg_8_0, xlg_8_1, xlg_8_2, xlg_8_3, xlg_8_4, xlg_8_5, xlg_8_6, xll_6, xlg_6_0, xlg_6_1, xls_6_0, xls_6_1, not_false_eq_true, Nat.reduceLT, Nat.reduceAdd, true_and, and_true, if_true, if_false, ite_true, ite_false, xnb_0, xnb_1, xnb_b, xk_v, xk_n, eq_false h1, eq_false h2]
theorem rng_12 {m : Nat} (h : m ≤ 12) {c : Int32} (h1 : ¬ c < 0) (h2 : c < nI m) : ∃ i, i < m ∧ c = nI i := by
  have e3 : (0 : Int32).toInt = 0 := by decide
  have e5 := c.toInt_lt
  rw [Int32.lt_iff_toInt_lt] at h1
  have e6 := nI_tn (x := c) (by omega)
  generalize hj : c.toInt.toNat = j at e6
  subst e6
  rw [n_lt (by omega) (by omega)] at h2
  exact ⟨j, h2, rfl⟩
theorem cel_ex (h0 : s 0 = nI co) (h1 : s 1 = nI ro) (hco : co ≤ 12) (hro : ro ≤ 12) {x y : Int32} (h : ¬ celC s x y = 0) : ∃ i j, i < co ∧ j < ro ∧ x = nI i ∧ y = nI j := by
  have hp : ¬ x < 0 ∧ x < s 0 ∧ ¬ y < 0 ∧ y < s 1 := Decidable.byContradiction fun z => h (xb_f z)
  rw [h0, h1] at hp
  obtain ⟨i, hi, e1⟩ := rng_12 hco hp.1 hp.2.1
  obtain ⟨j, hj, e2⟩ := rng_12 hro hp.2.2.1 hp.2.2.2
  exact ⟨i, j, hi, hj, e1, e2⟩
theorem c_T_hasCustoms (hc : X.1 0 = tgC Kb Ks ep) (hB : kB X Kb b nm s) (hs : s 3 = nI nc) (h6 : nc ≤ 6) (x y : Int32) : xcall E xprog (d + 3) 75 [.ref 0, .int x, .int y] X Q = if celC s x y = 0 then Q (.inr 15, xnew X (.inr (15, [])) 6) else Q (.inl (some (.int (cAt (b 5) (b 6) x y 0 nc))), X) := by
  have z := fun (Q : xR → Prop) => f_T_needCell (E := E) (d := d) (Q := Q) hc hB x y
  have b0 := hB.1
  have hn : (narrow .boolean (.int (cAt (b 5) (b 6) x y 0 nc)) = .int (cAt (b 5) (b 6) x y 0 nc)) = True := by
    rcases cAt_01 (kc := b 5) (kr := b 6) (x := x) (y := y) nc 0 with r | r <;> rw [r]
    · exact xnb_0
    · exact xnb_1
  unfold tgC at hc
  rw [e_T_hasCustoms]
  by_cases h : celC s x y = 0
  · simp only [s_T_hasCustoms_0, s_T_hasCustoms_1, s_T_hasCustoms_2, s_T_hasCustoms_3, s_T_hasCustoms_6, s_T_hasCustoms_7, s_T_hasCustoms_10, s_T_hasCustoms_11, s_T_hasCustoms_12, s_T_hasCustoms_15, xc_of hc, not_false_eq_true, Nat.reduceLT, Nat.reduceAdd, true_and, and_true, if_true, if_false, ite_true, ite_false, xnb_0, xnb_1, xnb_b, xk_v, xk_n, z, eq_true h, xk_x (y := m_T_hasCustoms) rfl]
  · simp only [s_T_hasCustoms_0, s_T_hasCustoms_1, s_T_hasCustoms_2, s_T_hasCustoms_3, s_T_hasCustoms_6, s_T_hasCustoms_7, s_T_hasCustoms_10, s_T_hasCustoms_11, s_T_hasCustoms_12, s_T_hasCustoms_15, xc_of hc, xf_of hc, xll_8, xlg_8_0, xlg_8_1, xlg_8_2, xlg_8_3, xlg_8_4, xlg_8_5, xlg_8_6, xc_of b0, not_false_eq_true, Nat.reduceLT, Nat.reduceAdd, true_and, and_true, if_true, if_false, ite_true, ite_false, xnb_0, xnb_1, xnb_b, xk_v, xk_n, z, eq_false h, f_Bk_hasCustomsAt hB nc hs h6, hn]
def steV (a b : Nat → Nat → Int32) (nk : Nat) (x y : Int32) : Int32 := if kAt (b 2) (b 3) x y 0 nk = -1 then 0 else if a 0 (kAt (b 2) (b 3) x y 0 nk).toNatClampNeg = 0 then 1 else 0
theorem stv01 (a b : Nat → Nat → Int32) (nk : Nat) (x y : Int32) : steV a b nk x y = 0 ∨ steV a b nk x y = 1 := by
  unfold steV
  split
  · exact Or.inl rfl
  · split
    · exact Or.inr rfl
    · exact Or.inl rfl
theorem c_T_hasSteam (hc : X.1 0 = tgC Kb Ks ep) (hB : kB X Kb b nm s) (hY : kY X 43 Kb a t) (hs : s 2 = nI nk) (h6 : nk ≤ 6) (x y : Int32) : xcall E xprog (d + 3) 76 [.ref 0, .int x, .int y] X Q = if celC s x y = 0 then Q (.inr 15, xnew X (.inr (15, [])) 6) else Q (.inl (some (.int (steV a b nk x y))), X) := by
  have z := fun (Q : xR → Prop) => f_T_needCell (E := E) (d := d) (Q := Q) hc hB x y
  have y0 := hY.1
  unfold tgC at hc
  rw [e_T_hasSteam]
  by_cases h : celC s x y = 0
  · simp only [s_T_hasSteam_0, s_T_hasSteam_1, s_T_hasSteam_2, s_T_hasSteam_3, s_T_hasSteam_6, s_T_hasSteam_7, s_T_hasSteam_10, s_T_hasSteam_11, s_T_hasSteam_12, s_T_hasSteam_15, s_T_hasSteam_16, s_T_hasSteam_19, s_T_hasSteam_20, s_T_hasSteam_23, s_T_hasSteam_24, xc_of hc, not_false_eq_true, Nat.reduceLT, Nat.reduceAdd, true_and, and_true, if_true, if_false, ite_true, ite_false, xnb_0, xnb_1, xnb_b, xk_v, xk_n, z, eq_true h, xk_x (y := m_T_hasSteam) rfl]
  · unfold steV
    rcases kAt_is (kc := b 2) (kr := b 3) (x := x) (y := y) nk 0 with r | ⟨k, k1, k2, r, _, _⟩
    · simp only [s_T_hasSteam_0, s_T_hasSteam_1, s_T_hasSteam_2, s_T_hasSteam_3, s_T_hasSteam_6, s_T_hasSteam_7, s_T_hasSteam_10, s_T_hasSteam_11, s_T_hasSteam_12, s_T_hasSteam_15, s_T_hasSteam_16, s_T_hasSteam_19, s_T_hasSteam_20, s_T_hasSteam_23, s_T_hasSteam_24, xc_of hc, xf_of hc, xll_8, xlg_8_0, xlg_8_1, xlg_8_2, xlg_8_3, xlg_8_4, xlg_8_5, xlg_8_6, xc_of y0, not_false_eq_true, Nat.reduceLT, Nat.reduceAdd, true_and, and_true, if_true, if_false, ite_true, ite_false, xnb_0, xnb_1, xnb_b, xk_v, xk_n, z, eq_false h, f_Bay_steamingKettleAt hB hY nk hs h6, r]
    · by_cases p : a 0 k = 0
      · simp only [s_T_hasSteam_0, s_T_hasSteam_1, s_T_hasSteam_2, s_T_hasSteam_3, s_T_hasSteam_6, s_T_hasSteam_7, s_T_hasSteam_10, s_T_hasSteam_11, s_T_hasSteam_12, s_T_hasSteam_15, s_T_hasSteam_16, s_T_hasSteam_19, s_T_hasSteam_20, s_T_hasSteam_23, s_T_hasSteam_24, xc_of hc, xf_of hc, xll_8, xlg_8_0, xlg_8_1, xlg_8_2, xlg_8_3, xlg_8_4, xlg_8_5, xlg_8_6, xc_of y0, not_false_eq_true, Nat.reduceLT, Nat.reduceAdd, true_and, and_true, if_true, if_false, ite_true, ite_false, xnb_0, xnb_1, xnb_b, xk_v, xk_n, z, eq_false h, f_Bay_steamingKettleAt hB hY nk hs h6, r, nI_m1 (show k < 2147483648 by omega), ncl (show k < 2147483648 by omega), p]
      · simp only [s_T_hasSteam_0, s_T_hasSteam_1, s_T_hasSteam_2, s_T_hasSteam_3, s_T_hasSteam_6, s_T_hasSteam_7, s_T_hasSteam_10, s_T_hasSteam_11, s_T_hasSteam_12, s_T_hasSteam_15, s_T_hasSteam_16, s_T_hasSteam_19, s_T_hasSteam_20, s_T_hasSteam_23, s_T_hasSteam_24, xc_of hc, xf_of hc, xll_8, xlg_8_0, xlg_8_1, xlg_8_2, xlg_8_3, xlg_8_4, xlg_8_5, xlg_8_6, xc_of y0, not_false_eq_true, Nat.reduceLT, Nat.reduceAdd, true_and, and_true, if_true, if_false, ite_true, ite_false, xnb_0, xnb_1, xnb_b, xk_v, xk_n, z, eq_false h, f_Bay_steamingKettleAt hB hY nk hs h6, r, nI_m1 (show k < 2147483648 by omega), ncl (show k < 2147483648 by omega), p]
end TAPI
