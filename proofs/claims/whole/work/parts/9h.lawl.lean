/-! ===== the law's loop, and the law ===== -/
section LAWL
variable {E : xE} {d D n n' Ln Mn : Nat} {Q : xR → Prop} {X X1 H : xH} {Kb Ks Kt K l : Nat} {ep th k v : Int32} {La Ma : List Value} {i : Nat} {T : Nat → Nat} {tp : Nat → Int32} {b : Nat → Nat → Int32} {nm : Nat → Int64} {s : Nat → Int32} {a a' : Nat → Nat → Int32} {t t' : Nat → Int32} {g : Nat → Nat → Int32} {q : Nat → Int32} {co ro nk nc nn cnt : Nat} {rs re : Nat → Nat} {nw kp wc sk ms : Nat → Int32} {sz ea h : Int32} {W : Int32 → Int64 → Prop}
theorem stP_le (h : stP E D Ln La Mn Ma n W X) (hn : n ≤ n') : stP E D Ln La Mn Ma n' W X := by
  obtain ⟨k, v, X1, X2, h1, h2, h3, h4, h5⟩ := h
  exact ⟨k, v, X1, X2, h1, h2, IVk_le h3 hn, h4, h5⟩
theorem and63 (x : Int32) : ∃ k, k < 64 ∧ x &&& 63 = nI k := by
  refine ⟨(x.toBitVec &&& 63#32).toNat, ?_, ?_⟩
  · rw [BitVec.toNat_and]
    exact Nat.lt_of_le_of_lt Nat.and_le_right (by decide)
  · exact Int32.toBitVec_inj.mp (BitVec.eq_of_toNat_eq (Nat.mod_eq_of_lt (x.toBitVec &&& 63#32).isLt).symm)
def ltab : List Nat := [208, 312, 368, 381, 394, 407, 420, 433, 446, 521, 596, 664, 720, 776, 789, 802, 815, 871, 927, 990, 1046, 1102, 1158, 1214, 1270, 1338, 1394, 1457, 1513, 1557, 1625, 1693, 1761, 1817, 1885, 1941, 2009, 2050]
theorem ltab_is : ∀ k, k < 64 → xtgt 40 (if (nI k).toInt < 0 ∨ 37 < (nI k).toInt then 2024 else (#[168, 272, 328, 341, 354, 367, 380, 393, 406, 481, 556, 624, 680, 736, 749, 762, 775, 831, 887, 950, 1006, 1062, 1118, 1174, 1230, 1298, 1354, 1417, 1473, 1517, 1585, 1653, 1721, 1777, 1845, 1901, 1969, 2010] : Array Int).getD ((nI k).toInt - 0).toNat 2024) = ltab.getD k 2064 := by decide +kernel
theorem lw_end (hI : IV n X) (hn : n ≤ n') : lwG E d n' i 2064 X := fun j5 j6 j7 j8 => ⟨X, j5, j6, j7, j8, fun _ => rfl, IV_le hI hn, by omega, by omega⟩
theorem lw_all (hI : IV n X) (hn : n < 800000) (hi : i + 6 ≤ E.1) (hL : E.1 < 2147483648) (k : Nat) : lwG E d (n + 360) i (ltab.getD k 2064) X := by
  have hm : n ≤ n + 360 := by omega
  rcases (show k = 0 ∨ k = 1 ∨ k = 2 ∨ k = 3 ∨ k = 4 ∨ k = 5 ∨ k = 6 ∨ k = 7 ∨ k = 8 ∨ k = 9 ∨ k = 10 ∨ k = 11 ∨ k = 12 ∨ k = 13 ∨ k = 14 ∨ k = 15 ∨ k = 16 ∨ k = 17 ∨ k = 18 ∨ k = 19 ∨ k = 20 ∨ k = 21 ∨ k = 22 ∨ k = 23 ∨ k = 24 ∨ k = 25 ∨ k = 26 ∨ k = 27 ∨ k = 28 ∨ k = 29 ∨ k = 30 ∨ k = 31 ∨ k = 32 ∨ k = 33 ∨ k = 34 ∨ k = 35 ∨ k = 36 ∨ k = 37 ∨ 38 ≤ k by omega) with z | z | z | z | z | z | z | z | z | z | z | z | z | z | z | z | z | z | z | z | z | z | z | z | z | z | z | z | z | z | z | z | z | z | z | z | z | z | z
  · subst z
    show lwG E d (n + 360) i 208 X
    obtain ⟨k, v, X1, X2, h1, h2, h3, h4, h5⟩ := st_feed (E := E) (d := d + 157) hI (E.2 (i + 1)) (E.2 (i + 2)) (E.2 (i + 3)) (E.2 (i + 4)) (E.2 (i + 5))
    exact lw_feed hi hL ⟨k, v, X1, X2, h1, h2, IVk_le h3 hm, h4, h5⟩
  · subst z
    show lwG E d (n + 360) i 312 X
    exact lw_trim hi hL (stP_le (st_trim (d := d + 156) hI (E.2 (i + 1))) hm)
  · subst z
    show lwG E d (n + 360) i 368 X
    exact lw_teach hI hm
  · subst z
    show lwG E d (n + 360) i 381 X
    exact lw_errorAt hI hm
  · subst z
    show lwG E d (n + 360) i 394 X
    exact lw_columns hI hm
  · subst z
    show lwG E d (n + 360) i 407 X
    exact lw_rows hI hm
  · subst z
    show lwG E d (n + 360) i 420 X
    exact lw_kettles hI hm
  · subst z
    show lwG E d (n + 360) i 433 X
    exact lw_clippers hI hm
  · subst z
    show lwG E d (n + 360) i 446 X
    exact lw_hasCustoms hi hL (stP_le (st_hasCustoms (d := d + 156) hI (E.2 (i + 1)) (E.2 (i + 2))) hm)
  · subst z
    show lwG E d (n + 360) i 521 X
    exact lw_hasSteam hi hL (stP_le (st_hasSteam (d := d + 156) hI (E.2 (i + 1)) (E.2 (i + 2))) hm)
  · subst z
    show lwG E d (n + 360) i 596 X
    exact lw_aromaAt hi hL (stP_le (st_aromaAt (d := d + 156) hI (E.2 (i + 1)) (E.2 (i + 2))) hm)
  · subst z
    show lwG E d (n + 360) i 664 X
    exact lw_becalmedFor hi hL (stP_le (st_becalmedFor (d := d + 156) hI (E.2 (i + 1))) hm)
  · subst z
    show lwG E d (n + 360) i 720 X
    exact lw_visitsTo hi hL (stP_le (st_visitsTo (d := d + 156) hI (E.2 (i + 1))) hm)
  · subst z
    show lwG E d (n + 360) i 776 X
    exact lw_windDirection hI hm
  · subst z
    show lwG E d (n + 360) i 789 X
    exact lw_windForce hI hm
  · subst z
    show lwG E d (n + 360) i 802 X
    exact lw_hour hI hm
  · subst z
    show lwG E d (n + 360) i 815 X
    exact lw_columnOf hi hL (stP_le (st_columnOf (d := d + 156) hI (E.2 (i + 1))) hm)
  · subst z
    show lwG E d (n + 360) i 871 X
    exact lw_rowOf hi hL (stP_le (st_rowOf (d := d + 156) hI (E.2 (i + 1))) hm)
  · subst z
    show lwG E d (n + 360) i 927 X
    exact lw_isHome hi hL (stP_le (st_isHome (d := d + 156) hI (E.2 (i + 1))) hm)
  · subst z
    show lwG E d (n + 360) i 990 X
    exact lw_leafOf hi hL (stP_le (st_leafOf (d := d + 156) hI (E.2 (i + 1))) hm)
  · subst z
    show lwG E d (n + 360) i 1046 X
    exact lw_wayOf hi hL (stP_le (st_wayOf (d := d + 156) hI (E.2 (i + 1))) hm)
  · subst z
    show lwG E d (n + 360) i 1102 X
    exact lw_speedOf hi hL (stP_le (st_speedOf (d := d + 156) hI (E.2 (i + 1))) hm)
  · subst z
    show lwG E d (n + 360) i 1158 X
    exact lw_pointsOf hi hL (stP_le (st_pointsOf (d := d + 156) hI (E.2 (i + 1))) hm)
  · subst z
    show lwG E d (n + 360) i 1214 X
    exact lw_sipsOf hi hL (stP_le (st_sipsOf (d := d + 156) hI (E.2 (i + 1))) hm)
  · subst z
    show lwG E d (n + 360) i 1270 X
    exact lw_smells hi hL (stP_le (st_smells (d := d + 155) hI (E.2 (i + 1)) (E.2 (i + 2))) hm)
  · subst z
    show lwG E d (n + 360) i 1338 X
    exact lw_ruleTells hi hL (stP_le (st_ruleTells (d := d + 152) hI (E.2 (i + 1))) hm)
  · subst z
    show lwG E d (n + 360) i 1394 X
    exact lw_wouldStay hi hL (stP_le (st_wouldStay (d := d + 152) hI (E.2 (i + 1))) hm)
  · subst z
    show lwG E d (n + 360) i 1457 X
    exact lw_steersTo hi hL (stP_le (st_steersTo (d := d + 152) hI (E.2 (i + 1))) hm)
  · subst z
    show lwG E d (n + 360) i 1513 X
    exact lw_leader hi hL (stP_le (st_leader (d := d + 157) hI (by omega) ) hm)
  · subst z
    show lwG E d (n + 360) i 1557 X
    exact lw_setWind hi hL (stP_le (st_setWind (d := d + 157) hI (E.2 (i + 1)) (E.2 (i + 2))) hm)
  · subst z
    show lwG E d (n + 360) i 1625 X
    exact lw_jettison hi hL (stP_le (st_jettison (d := d + 157) hI (E.2 (i + 1)) (E.2 (i + 2))) hm)
  · subst z
    show lwG E d (n + 360) i 1693 X
    exact lw_calmKettle hi hL (stP_le (st_calmKettle (d := d + 157) hI (E.2 (i + 1)) (E.2 (i + 2))) hm)
  · subst z
    show lwG E d (n + 360) i 1761 X
    exact lw_sail hi hL (stP_le (st_sail (d := d + 149) hI (by omega) (E.2 (i + 1))) (Nat.le_refl _))
  · subst z
    show lwG E d (n + 360) i 1817 X
    exact lw_pointsBehind hi hL (stP_le (st_pointsBehind (d := d + 149) hI (by omega) (E.2 (i + 1)) (E.2 (i + 2))) hm)
  · subst z
    show lwG E d (n + 360) i 1885 X
    exact lw_hoursUntilPoints hi hL (stP_le (st_hoursUntilPoints (d := d + 149) hI (by omega) (E.2 (i + 1))) hm)
  · subst z
    show lwG E d (n + 360) i 1941 X
    exact lw_bestWind hi hL (stP_le (st_bestWind (d := d + 149) hI (by omega) (E.2 (i + 1)) (E.2 (i + 2))) hm)
  · subst z
    show lwG E d (n + 360) i 2009 X
    exact lw_meanPoints hI hm
  · subst z
    show lwG E d (n + 360) i 2050 X
    exact lw_digest hI hm
  · have e : ltab.getD k 2064 = 2064 := by
      unfold List.getD
      rw [List.getElem?_eq_none (show ltab.length ≤ k from z)]
      rfl
    rw [e]
    exact lw_end hI hm
theorem nI_sub {a b : Nat} (h : b ≤ a) (ha : a < 2147483648) : nI a - nI b = nI (a - b) := by
  refine Int32.toInt_inj.mp ?_
  have e1 := nI_i (x := a) ha
  have e2 := nI_i (x := b) (by omega)
  have e3 := nI_i (x := a - b) (by omega)
  rw [ti_sub (by omega) (by omega), e1, e2, e3]
  omega
theorem nI_neg6 {a i : Nat} (h : a < 6) (hi : i < 2147483648) : nI a - 6 < nI i := by
  have e1 := nI_i (x := a) (by omega)
  have e2 : (6 : Int32).toInt = 6 := by decide
  have e3 := nI_i (x := i) hi
  rw [Int32.lt_iff_toInt_lt, ti_sub (by omega) (by omega), e1, e2, e3]
  omega
theorem law_one (hI : IV n X) (hn : n < 800000) (hi : i + 6 ≤ E.1) (hL : E.1 < 2147483648) (j5 j6 j7 j8 : Option Value) : ∃ (X2 : xH) (q5 q6 q7 q8 : Option Value), (∀ Q, xr E (d + 160) m_L_law Q (23, [some (.retAddr 0), some (.ref 0), some (.ref 63), some (.ref 78), some (.int (nI i)), j5, j6, j7, j8], [], X) = xr E (d + 160) m_L_law Q (23, [some (.retAddr 0), some (.ref 0), some (.ref 63), some (.ref 78), some (.int (nI (i + 6))), q5, q6, q7, q8], [], X2)) ∧ IV (n + 360) X2 ∧ X2.2.1 ≤ X.2.1 + 11 ∧ X2.2.2 ≤ X.2.2 + 884 := by
  obtain ⟨k, k1, k2⟩ := and63 (E.2 i)
  obtain ⟨X2, q5, q6, q7, q8, r, h1, h2, h3⟩ := lw_all (E := E) (d := d) hI hn hi hL k j5 j6 j7 j8
  refine ⟨X2, q5, q6, q7, q8, fun Q => ?_, h1, h2, h3⟩
  have e1 : ¬ nI E.1 - 6 < nI i := by
    rw [show (6 : Int32) = nI 6 from rfl, nI_sub (by omega) hL, n_lt (by omega) (by omega)]
    omega
  have e2 : nI i + 6 = nI (i + 6) := nI_ad i 6
  rw [s_L_law_23]
  simp only [s_L_law_25, s_L_law_26, s_L_law_27, s_L_law_29, s_L_law_30, s_L_law_33, s_L_law_34, s_L_law_36, s_L_law_37, s_L_law_39, not_false_eq_true, Nat.reduceLT, Nat.reduceAdd, true_and, and_true, if_true, if_false, ite_true, ite_false, xnb_0, xnb_1, xnb_b, xk_v, xk_n, eq_false e1, nvp (show i < E.1 by omega) hL, ncl (show i < 2147483648 by omega), k2]
  rw [s_L_law_40, ltab_is k k1, r Q]
  simp only [s_L_law_2064, s_L_law_2067, e2]
theorem law_loop (hL : E.1 < 2147483000) : ∀ m i n X (j5 j6 j7 j8 : Option Value), i + 6 * m ≤ E.1 → E.1 < i + 6 * m + 6 → IV n X → n + 360 * m < 800000 → ∃ X2 : xH, (∀ Q, xr E (d + 160) m_L_law Q (23, [some (.retAddr 0), some (.ref 0), some (.ref 63), some (.ref 78), some (.int (nI i)), j5, j6, j7, j8], [], X) = Q (.inl (some (.int 1)), X2)) ∧ X2.2.1 ≤ X.2.1 + 11 * m ∧ X2.2.2 ≤ X.2.2 + 884 * m := by
  intro m
  induction m with
  | zero =>
    intro i n X j5 j6 j7 j8 h1 h2 hI hn
    refine ⟨X, fun Q => ?_, by omega, by omega⟩
    have e1 : nI E.1 - 6 < nI i := by
      by_cases p : E.1 < 6
      · exact nI_neg6 p (by omega)
      · rw [show (6 : Int32) = nI 6 from rfl, nI_sub (by omega) (by omega), n_lt (by omega) (by omega)]
        omega
    rw [s_L_law_23]
    simp only [s_L_law_25, s_L_law_26, s_L_law_27, s_L_law_29, s_L_law_30, s_L_law_2070, s_L_law_2071, not_false_eq_true, Nat.reduceLT, Nat.reduceAdd, true_and, and_true, if_true, if_false, ite_true, ite_false, xnb_0, xnb_1, xnb_b, xk_v, xk_n, eq_true e1]
  | succ m ih =>
    intro i n X j5 j6 j7 j8 h1 h2 hI hn
    obtain ⟨X1, q5, q6, q7, q8, r, h3, h4, h5⟩ := law_one (E := E) (d := d) hI (by omega) (show i + 6 ≤ E.1 by omega) (by omega) j5 j6 j7 j8
    obtain ⟨X2, r2, h6, h7⟩ := ih (i + 6) (n + 360) X1 q5 q6 q7 q8 (by omega) (by omega) h3 (by omega)
    exact ⟨X2, fun Q => (r Q).trans (r2 Q), by omega, by omega⟩
theorem law_runs (hL : E.1 ≤ 3072) : ∃ X2 : xH, (∀ Q, xr E (d + 160) m_L_law Q (0, [some (.retAddr 0), none, none, none, none, none, none, none, none], [], (fun _ => xnil, 0, 0)) = Q (.inl (some (.int 1)), X2)) ∧ X2.2.1 ≤ 601024 ∧ X2.2.2 ≤ 7293034 := by
  obtain ⟨X, r1, q1, hC⟩ := f_T_init (E := E) (d := d + 153) (Y := xnew ((fun _ => xnil, 0, 0) : xH) (.inr (8, xdef 8)) 7) rfl rfl
  obtain ⟨X2, r2, q2, hI⟩ := f_M_init (E := E) (d := d + 157) hC (by rw [q1])
  obtain ⟨X3, r3, h1, h2⟩ := law_loop (E := E) (d := d) (by omega) (E.1 / 6) 0 0 (xnew X2 (xarJ 1 (fun _ => 0)) 1) none none none none (by omega) (by omega) hI (by omega)
  rw [show nI 0 = (0 : Int32) from rfl] at r3
  rw [xnew_n, q2] at h1
  rw [xnew_k, q2, q1] at h2
  refine ⟨X3, fun Q => ?_, ?_, ?_⟩
  · have a1 : ((fun _ => xnil, 0, 0) : xH).2.1 = 0 := rfl
    have a2 : X.2.1 = 63 := congrArg Prod.fst q1
    have a3 : X2.2.1 = 78 := congrArg Prod.fst q2
    simp only [s_L_law_0, s_L_law_3, s_L_law_4, s_L_law_7, s_L_law_8, s_L_law_11, s_L_law_12, s_L_law_15, s_L_law_16, s_L_law_17, s_L_law_19, s_L_law_20, s_L_law_21, not_false_eq_true, Nat.reduceLT, Nat.reduceAdd, true_and, and_true, if_true, if_false, ite_true, ite_false, xnb_0, xnb_1, xnb_b, xk_v, xk_n, a1, r1, a2, r2, a3, show (¬ (1 : Int32) < 0 ∧ 1 * 8 ≤ 536870912) = True from eq_true (by decide), show (1 : Int32).toNatClampNeg = 1 from by decide]
    exact r3 Q
  · have : 78 + 1 + 11 * (E.1 / 6) ≤ 601024 := by omega
    exact Nat.le_trans h1 this
  · have : 0 + 7 + 5166 + 2982 + 1 + 884 * (E.1 / 6) ≤ 7293034 := by omega
    exact Nat.le_trans h2 this
end LAWL
