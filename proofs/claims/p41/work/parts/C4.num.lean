/-! ===== a number's digits ===== -/
section NUM
variable {E : xE} {d : Nat} {Q : xR → Prop} {H : xH} {p v n m q a b lo cb sl : Nat} {f g : Nat → Int32} {L M : List Nat} {sv : Value}
variable {y : xM} {pc : Nat} {ls : List (Option Value)} {st : List Value}
theorem xr_d3 {l r1 r2 r3 x : Nat} {j : Int32} (h : y.cd pc = some (.baload, l, r1, r2, r3, x)) : xr E d y Q (pc, ls, .int j :: .retAddr 3 :: st, H) = (vp_in j 100 ∧ xr E d y Q (pc + 1, ls, .int (xdig 3 j.toNatClampNeg) :: st, H)) := by
  refine xr_n3 ?_ Iff.rfl
  unfold xact
  rw [h]
  rfl
theorem xr_d4 {l r1 r2 r3 x : Nat} {j : Int32} (h : y.cd pc = some (.baload, l, r1, r2, r3, x)) : xr E d y Q (pc, ls, .int j :: .retAddr 4 :: st, H) = (vp_in j 100 ∧ xr E d y Q (pc + 1, ls, .int (xdig 4 j.toNatClampNeg) :: st, H)) := by
  refine xr_n3 ?_ Iff.rfl
  unfold xact
  rw [h]
  rfl
theorem xdg3 : ∀ k, k < 100 → vp_nar .byte (xdig 3 k) = nI (48 + k % 10) := by decide +kernel
theorem xdg4 : ∀ k, k < 100 → vp_nar .byte (xdig 4 k) = nI (48 + k / 10) := by decide +kernel
theorem ng_lt {a b : Nat} (ha : a < 2147483648) (hb : b < 2147483648) : (-nI a < -nI b) = (b < a) := propext (sb_nlt (by omega) (by omega))
theorem nn_i (x : Nat) : -(-nI x) = nI x := Int32.neg_neg
theorem ng10 : (-10 : Int32) = -nI 10 ∧ (-100 : Int32) = -nI 100 ∧ (-9 : Int32) = -nI 9 ∧ (10 : Int32) * -nI 10 = -nI 100 ∧ (10 : Int32) * -nI 100 = -nI 1000 ∧ (10 : Int32) * -nI 1000 = -nI 10000 := by decide
theorem f_JI_size (h : n ≤ 9999) : xcall E xprog (d + 1) 134 [.int (nI n)] H Q = Q (.inl (some (.int (nI (dcL n).length))), H) := by
  obtain ⟨c1, c2, -, c4, c5, c6⟩ := ng10
  have b1 : ((1 : Int32) < 10) = True := eq_true (by decide)
  have b2 : ((2 : Int32) < 10) = True := eq_true (by decide)
  have b3 : ((3 : Int32) < 10) = True := eq_true (by decide)
  have b4 : ((4 : Int32) < 10) = True := eq_true (by decide)
  have a1 : (1 : Int32) + 1 = 2 := rfl
  have a2 : (2 : Int32) + 1 = 3 := rfl
  have a3 : (3 : Int32) + 1 = 4 := rfl
  rw [e_JI_stringSize]
  unfold dcL
  by_cases h1 : n < 10
  · simp only [↓reduceIte, s_JI_stringSize_0, s_JI_stringSize_1, s_JI_stringSize_2, s_JI_stringSize_3, s_JI_stringSize_6, s_JI_stringSize_7, s_JI_stringSize_8, s_JI_stringSize_9, s_JI_stringSize_10, s_JI_stringSize_11, s_JI_stringSize_13, s_JI_stringSize_14, s_JI_stringSize_15, s_JI_stringSize_17, s_JI_stringSize_19, s_JI_stringSize_22, s_JI_stringSize_23, s_JI_stringSize_24, s_JI_stringSize_27, s_JI_stringSize_28, s_JI_stringSize_29, s_JI_stringSize_30, s_JI_stringSize_31, s_JI_stringSize_33, s_JI_stringSize_34, s_JI_stringSize_35, s_JI_stringSize_36, s_JI_stringSize_39, s_JI_stringSize_42, s_JI_stringSize_44, s_JI_stringSize_45, s_JI_stringSize_46, s_JI_stringSize_16, nI_n0 n (by omega), c1, b1, ng_lt (a := 10) (b := n) (by omega) (by omega), eq_true h1, if_true]
    rfl
  · by_cases h2 : n < 100
    · simp only [↓reduceIte, s_JI_stringSize_0, s_JI_stringSize_1, s_JI_stringSize_2, s_JI_stringSize_3, s_JI_stringSize_6, s_JI_stringSize_7, s_JI_stringSize_8, s_JI_stringSize_9, s_JI_stringSize_10, s_JI_stringSize_11, s_JI_stringSize_13, s_JI_stringSize_14, s_JI_stringSize_15, s_JI_stringSize_17, s_JI_stringSize_19, s_JI_stringSize_22, s_JI_stringSize_23, s_JI_stringSize_24, s_JI_stringSize_27, s_JI_stringSize_28, s_JI_stringSize_29, s_JI_stringSize_30, s_JI_stringSize_31, s_JI_stringSize_33, s_JI_stringSize_34, s_JI_stringSize_35, s_JI_stringSize_36, s_JI_stringSize_39, s_JI_stringSize_42, s_JI_stringSize_44, s_JI_stringSize_45, s_JI_stringSize_46, s_JI_stringSize_16, nI_n0 n (by omega), c1, c4, b1, b2, a1, ng_lt (a := 10) (b := n) (by omega) (by omega), ng_lt (a := 100) (b := n) (by omega) (by omega), eq_false h1, eq_true h2]
      rfl
    · by_cases h3 : n < 1000
      · simp only [↓reduceIte, s_JI_stringSize_0, s_JI_stringSize_1, s_JI_stringSize_2, s_JI_stringSize_3, s_JI_stringSize_6, s_JI_stringSize_7, s_JI_stringSize_8, s_JI_stringSize_9, s_JI_stringSize_10, s_JI_stringSize_11, s_JI_stringSize_13, s_JI_stringSize_14, s_JI_stringSize_15, s_JI_stringSize_17, s_JI_stringSize_19, s_JI_stringSize_22, s_JI_stringSize_23, s_JI_stringSize_24, s_JI_stringSize_27, s_JI_stringSize_28, s_JI_stringSize_29, s_JI_stringSize_30, s_JI_stringSize_31, s_JI_stringSize_33, s_JI_stringSize_34, s_JI_stringSize_35, s_JI_stringSize_36, s_JI_stringSize_39, s_JI_stringSize_42, s_JI_stringSize_44, s_JI_stringSize_45, s_JI_stringSize_46, s_JI_stringSize_16, nI_n0 n (by omega), c1, c4, c5, b1, b2, b3, a1, a2, ng_lt (a := 10) (b := n) (by omega) (by omega), ng_lt (a := 100) (b := n) (by omega) (by omega), ng_lt (a := 1000) (b := n) (by omega) (by omega), eq_false h1, eq_false h2, eq_true h3]
        rfl
      · simp only [↓reduceIte, s_JI_stringSize_0, s_JI_stringSize_1, s_JI_stringSize_2, s_JI_stringSize_3, s_JI_stringSize_6, s_JI_stringSize_7, s_JI_stringSize_8, s_JI_stringSize_9, s_JI_stringSize_10, s_JI_stringSize_11, s_JI_stringSize_13, s_JI_stringSize_14, s_JI_stringSize_15, s_JI_stringSize_17, s_JI_stringSize_19, s_JI_stringSize_22, s_JI_stringSize_23, s_JI_stringSize_24, s_JI_stringSize_27, s_JI_stringSize_28, s_JI_stringSize_29, s_JI_stringSize_30, s_JI_stringSize_31, s_JI_stringSize_33, s_JI_stringSize_34, s_JI_stringSize_35, s_JI_stringSize_36, s_JI_stringSize_39, s_JI_stringSize_42, s_JI_stringSize_44, s_JI_stringSize_45, s_JI_stringSize_46, s_JI_stringSize_16, nI_n0 n (by omega), c1, c4, c5, c6, b1, b2, b3, b4, a1, a2, a3, ng_lt (a := 10) (b := n) (by omega) (by omega), ng_lt (a := 100) (b := n) (by omega) (by omega), ng_lt (a := 1000) (b := n) (by omega) (by omega), ng_lt (a := 10000) (b := n) (by omega) (by omega), eq_false h1, eq_false h2, eq_false h3, eq_true (show n < 10000 by omega)]
        rfl
theorem xlB_s : xlenB (xset H v (xarB m g)) v = m := xBl_of (xset_s v rfl)
theorem xfB_s : xfnB (xset H v (xarB m g)) v = g := xBf_of (xset_s v rfl)
theorem xst_2 {A B : xC} : xset (xset H v A) v B = xset H v B := by
  refine Prod.ext (funext fun a => ?_) rfl
  show (if a = v then _ else if a = v then _ else _) = if a = v then _ else _
  split <;> rfl
theorem bk_u (h : xbok m f) {x : Nat} (hx : x < 128) : xbok m (upd f q (nI x)) := by
  intro j hj
  unfold upd
  split
  · exact xbc x hx
  · exact h j hj
theorem f_JI_get (hv : H.1 v = xarB m g) (h : n ≤ 9999) (hq : q + (dcL n).length ≤ m) (hm : m ≤ 1000000) (hg : xbok m g) : ∃ g', (∀ Q, xcall E xprog (d + 1) 133 [.int (nI n), .int (nI (q + (dcL n).length)), .ref v] H Q = Q (.inl (some (.int (nI q))), xset H v (xarB m g'))) ∧ xbok m g' ∧ (∀ j, j < (dcL n).length → g' (q + j) = nI ((dcL n).getD j 0)) ∧ ∀ j, j < q → g' j = g j := by
  obtain ⟨-, c2, c3, -⟩ := ng10
  have e1 : ∀ {k}, k ≤ 1000000 → nI (k + 1) + (-1) = nI k := fun hk => (nI_a1 (by omega) (by omega)).trans (by rw [Nat.add_sub_cancel])
  have e10 := e1 (k := q) (by omega)
  have e11 := e1 (k := q + 1)
  have e12 := e1 (k := q + 2)
  have e13 := e1 (k := q + 3)
  have z1 : ∀ {k}, k < m → (vp_in (nI k) m) = True := fun hk => nvp hk (by omega)
  have z2 : ∀ {k}, k < m → (nI k).toNatClampNeg = k := fun hk => ncl (by omega)
  have y1 := fun k (hk : k < 100) => show (vp_in (nI k) 100) = True from nvp hk (by omega)
  have y2 := fun k (hk : k < 100) => show (nI k).toNatClampNeg = k from ncl (by omega)
  unfold dcL at hq ⊢
  by_cases h1 : n < 10
  · simp only [if_pos h1, List.length_cons, List.length_nil, Nat.zero_add] at hq ⊢
    refine ⟨upd g q (nI (48 + n)), fun Q => ?_, bk_u hg (by omega), fun j hj => ?_, fun j hj => upd_o (by omega)⟩
    · rw [e_JI_getChars]
      simp only [↓reduceIte, s_JI_getChars_0, s_JI_getChars_1, s_JI_getChars_3, s_JI_getChars_4, s_JI_getChars_7, s_JI_getChars_8, s_JI_getChars_11, s_JI_getChars_12, s_JI_getChars_14, s_JI_getChars_16, s_JI_getChars_19, s_JI_getChars_20, s_JI_getChars_21, s_JI_getChars_23, s_JI_getChars_25, s_JI_getChars_28, s_JI_getChars_29, s_JI_getChars_31, s_JI_getChars_32, s_JI_getChars_33, s_JI_getChars_34, s_JI_getChars_36, s_JI_getChars_37, s_JI_getChars_38, s_JI_getChars_39, s_JI_getChars_41, s_JI_getChars_42, s_JI_getChars_43, s_JI_getChars_44, s_JI_getChars_47, s_JI_getChars_49, s_JI_getChars_52, s_JI_getChars_55, s_JI_getChars_56, s_JI_getChars_57, s_JI_getChars_60, s_JI_getChars_62, s_JI_getChars_65, s_JI_getChars_68, s_JI_getChars_69, s_JI_getChars_72, s_JI_getChars_73, s_JI_getChars_76, s_JI_getChars_78, s_JI_getChars_81, s_JI_getChars_82, s_JI_getChars_84, s_JI_getChars_85, s_JI_getChars_86, s_JI_getChars_88, s_JI_getChars_91, s_JI_getChars_92, s_JI_getChars_95, s_JI_getChars_97, s_JI_getChars_100, s_JI_getChars_101, s_JI_getChars_103, s_JI_getChars_104, s_JI_getChars_106, s_JI_getChars_109, s_JI_getChars_110, s_JI_getChars_113, s_JI_getChars_115, s_JI_getChars_117, s_JI_getChars_118, s_JI_getChars_120, s_JI_getChars_22, nI_n0 n (by omega), not_false_eq_true, Nat.reduceLT, Nat.reduceAdd, true_and, and_true, if_true, if_false, ite_true, ite_false, xnb_0, xnb_1, xnb_b, xk_v, xk_n, c2, c3, ng_lt (a := n) (b := 100) (by omega) (by omega), ng_lt (a := 100) (b := n) (by omega) (by omega), ng_lt (a := n) (b := 9) (by omega) (by omega), eq_true (show n < 100 by omega), eq_false (show ¬ 9 < n by omega), nn_i, e10, xr_d3 (y := m_JI_getChars) (pc := 83) rfl, xBl_of hv, xBf_of hv, z1 (show q < m by omega), z2 (show q < m by omega), y1 n (by omega), y2 n (by omega), xdg3 n (by omega), Nat.mod_eq_of_lt h1]
    · obtain rfl : j = 0 := by omega
      exact upd_s
  · by_cases h2 : n < 100
    · simp only [if_neg h1, if_pos h2, List.length_cons, List.length_nil, Nat.zero_add] at hq ⊢
      refine ⟨upd (upd g (q + 1) (nI (48 + n % 10))) q (nI (48 + n / 10)), fun Q => ?_, bk_u (bk_u hg (by omega)) (by omega), fun j hj => ?_, fun j hj => ?_⟩
      · rw [e_JI_getChars]
        simp only [↓reduceIte, s_JI_getChars_0, s_JI_getChars_1, s_JI_getChars_3, s_JI_getChars_4, s_JI_getChars_7, s_JI_getChars_8, s_JI_getChars_11, s_JI_getChars_12, s_JI_getChars_14, s_JI_getChars_16, s_JI_getChars_19, s_JI_getChars_20, s_JI_getChars_21, s_JI_getChars_23, s_JI_getChars_25, s_JI_getChars_28, s_JI_getChars_29, s_JI_getChars_31, s_JI_getChars_32, s_JI_getChars_33, s_JI_getChars_34, s_JI_getChars_36, s_JI_getChars_37, s_JI_getChars_38, s_JI_getChars_39, s_JI_getChars_41, s_JI_getChars_42, s_JI_getChars_43, s_JI_getChars_44, s_JI_getChars_47, s_JI_getChars_49, s_JI_getChars_52, s_JI_getChars_55, s_JI_getChars_56, s_JI_getChars_57, s_JI_getChars_60, s_JI_getChars_62, s_JI_getChars_65, s_JI_getChars_68, s_JI_getChars_69, s_JI_getChars_72, s_JI_getChars_73, s_JI_getChars_76, s_JI_getChars_78, s_JI_getChars_81, s_JI_getChars_82, s_JI_getChars_84, s_JI_getChars_85, s_JI_getChars_86, s_JI_getChars_88, s_JI_getChars_91, s_JI_getChars_92, s_JI_getChars_95, s_JI_getChars_97, s_JI_getChars_100, s_JI_getChars_101, s_JI_getChars_103, s_JI_getChars_104, s_JI_getChars_106, s_JI_getChars_109, s_JI_getChars_110, s_JI_getChars_113, s_JI_getChars_115, s_JI_getChars_117, s_JI_getChars_118, s_JI_getChars_120, s_JI_getChars_22, nI_n0 n (by omega), not_false_eq_true, Nat.reduceLT, Nat.reduceAdd, true_and, and_true, if_true, if_false, ite_true, ite_false, xnb_0, xnb_1, xnb_b, xk_v, xk_n, c2, c3, ng_lt (a := 100) (b := n) (by omega) (by omega), ng_lt (a := n) (b := 9) (by omega) (by omega), eq_true h2, eq_true (show 9 < n by omega), nn_i, e10, e11 (by omega), xr_d3 (y := m_JI_getChars) (pc := 83) rfl, xr_d4 (y := m_JI_getChars) (pc := 102) rfl, xBl_of hv, xBf_of hv, xlB_s, xfB_s, xst_2, show ((100 : Int32) = 0) = False from eq_false (by decide), not_false_eq_true, true_and, z1 (show q < m by omega), z2 (show q < m by omega), z1 (show q + 1 < m by omega), z2 (show q + 1 < m by omega), y1 n h2, y2 n h2, xdg3 n h2, xdg4 n h2]
      · rcases (show j = 0 ∨ j = 1 by omega) with rfl | rfl
        · exact upd_s
        · rw [upd_o (by omega)]; exact upd_s
      · rw [upd_o (by omega), upd_o (by omega)]
    · have d1 : (-nI n) / 100 = -nI (n / 100) := sb_ndiv (by omega)
      have d2 : (-nI (n / 100)) * 100 - (-nI n) = nI (n % 100) := sb_nrem (by omega)
      have q1 : n % 100 < 100 := by omega
      have q2 : n / 100 < 100 := by omega
      have w1 : n % 100 % 10 = n % 10 := by omega
      have w2 : n % 100 / 10 = n / 10 % 10 := by omega
      have w3 : n / 100 / 10 = n / 1000 := by omega
      by_cases h3 : n < 1000
      · simp only [if_neg h1, if_neg h2, if_pos h3, List.length_cons, List.length_nil, Nat.zero_add] at hq ⊢
        have w4 : n / 100 % 10 = n / 100 := by omega
        refine ⟨upd (upd (upd g (q + 2) (nI (48 + n % 10))) (q + 1) (nI (48 + n / 10 % 10))) q (nI (48 + n / 100)), fun Q => ?_, bk_u (bk_u (bk_u hg (by omega)) (by omega)) (by omega), fun j hj => ?_, fun j hj => ?_⟩
        · rw [e_JI_getChars]
          simp only [↓reduceIte, s_JI_getChars_0, s_JI_getChars_1, s_JI_getChars_3, s_JI_getChars_4, s_JI_getChars_7, s_JI_getChars_8, s_JI_getChars_11, s_JI_getChars_12, s_JI_getChars_14, s_JI_getChars_16, s_JI_getChars_19, s_JI_getChars_20, s_JI_getChars_21, s_JI_getChars_23, s_JI_getChars_25, s_JI_getChars_28, s_JI_getChars_29, s_JI_getChars_31, s_JI_getChars_32, s_JI_getChars_33, s_JI_getChars_34, s_JI_getChars_36, s_JI_getChars_37, s_JI_getChars_38, s_JI_getChars_39, s_JI_getChars_41, s_JI_getChars_42, s_JI_getChars_43, s_JI_getChars_44, s_JI_getChars_47, s_JI_getChars_49, s_JI_getChars_52, s_JI_getChars_55, s_JI_getChars_56, s_JI_getChars_57, s_JI_getChars_60, s_JI_getChars_62, s_JI_getChars_65, s_JI_getChars_68, s_JI_getChars_69, s_JI_getChars_72, s_JI_getChars_73, s_JI_getChars_76, s_JI_getChars_78, s_JI_getChars_81, s_JI_getChars_82, s_JI_getChars_84, s_JI_getChars_85, s_JI_getChars_86, s_JI_getChars_88, s_JI_getChars_91, s_JI_getChars_92, s_JI_getChars_95, s_JI_getChars_97, s_JI_getChars_100, s_JI_getChars_101, s_JI_getChars_103, s_JI_getChars_104, s_JI_getChars_106, s_JI_getChars_109, s_JI_getChars_110, s_JI_getChars_113, s_JI_getChars_115, s_JI_getChars_117, s_JI_getChars_118, s_JI_getChars_120, s_JI_getChars_22, nI_n0 n (by omega), not_false_eq_true, Nat.reduceLT, Nat.reduceAdd, true_and, and_true, if_true, if_false, ite_true, ite_false, xnb_0, xnb_1, xnb_b, xk_v, xk_n, c2, c3, d1, d2, ng_lt (a := 100) (b := n) (by omega) (by omega), ng_lt (a := 100) (b := n / 100) (by omega) (by omega), ng_lt (a := n / 100) (b := 9) (by omega) (by omega), eq_false h2, eq_true q2, eq_false (show ¬ 9 < n / 100 by omega), nn_i, e10, e11 (by omega), e12 (by omega), xr_d3 (y := m_JI_getChars) (pc := 83) rfl, xr_d3 (y := m_JI_getChars) (pc := 54) rfl, xr_d4 (y := m_JI_getChars) (pc := 67) rfl, xBl_of hv, xBf_of hv, xlB_s, xfB_s, xst_2, show ((100 : Int32) = 0) = False from eq_false (by decide), not_false_eq_true, true_and, z1 (show q < m by omega), z2 (show q < m by omega), z1 (show q + 1 < m by omega), z2 (show q + 1 < m by omega), z1 (show q + 2 < m by omega), z2 (show q + 2 < m by omega), y1 _ q1, y2 _ q1, y1 _ q2, y2 _ q2, xdg3 _ q1, xdg4 _ q1, xdg3 _ q2, w1, w2, w4]
        · rcases (show j = 0 ∨ j = 1 ∨ j = 2 by omega) with rfl | rfl | rfl
          · exact upd_s
          · rw [upd_o (by omega)]; exact upd_s
          · rw [upd_o (by omega), upd_o (by omega)]; exact upd_s
        · rw [upd_o (by omega), upd_o (by omega), upd_o (by omega)]
      · simp only [if_neg h1, if_neg h2, if_neg h3, List.length_cons, List.length_nil, Nat.zero_add] at hq ⊢
        refine ⟨upd (upd (upd (upd g (q + 3) (nI (48 + n % 10))) (q + 2) (nI (48 + n / 10 % 10))) (q + 1) (nI (48 + n / 100 % 10))) q (nI (48 + n / 1000)), fun Q => ?_, bk_u (bk_u (bk_u (bk_u hg (by omega)) (by omega)) (by omega)) (by omega), fun j hj => ?_, fun j hj => ?_⟩
        · rw [e_JI_getChars]
          simp only [↓reduceIte, s_JI_getChars_0, s_JI_getChars_1, s_JI_getChars_3, s_JI_getChars_4, s_JI_getChars_7, s_JI_getChars_8, s_JI_getChars_11, s_JI_getChars_12, s_JI_getChars_14, s_JI_getChars_16, s_JI_getChars_19, s_JI_getChars_20, s_JI_getChars_21, s_JI_getChars_23, s_JI_getChars_25, s_JI_getChars_28, s_JI_getChars_29, s_JI_getChars_31, s_JI_getChars_32, s_JI_getChars_33, s_JI_getChars_34, s_JI_getChars_36, s_JI_getChars_37, s_JI_getChars_38, s_JI_getChars_39, s_JI_getChars_41, s_JI_getChars_42, s_JI_getChars_43, s_JI_getChars_44, s_JI_getChars_47, s_JI_getChars_49, s_JI_getChars_52, s_JI_getChars_55, s_JI_getChars_56, s_JI_getChars_57, s_JI_getChars_60, s_JI_getChars_62, s_JI_getChars_65, s_JI_getChars_68, s_JI_getChars_69, s_JI_getChars_72, s_JI_getChars_73, s_JI_getChars_76, s_JI_getChars_78, s_JI_getChars_81, s_JI_getChars_82, s_JI_getChars_84, s_JI_getChars_85, s_JI_getChars_86, s_JI_getChars_88, s_JI_getChars_91, s_JI_getChars_92, s_JI_getChars_95, s_JI_getChars_97, s_JI_getChars_100, s_JI_getChars_101, s_JI_getChars_103, s_JI_getChars_104, s_JI_getChars_106, s_JI_getChars_109, s_JI_getChars_110, s_JI_getChars_113, s_JI_getChars_115, s_JI_getChars_117, s_JI_getChars_118, s_JI_getChars_120, s_JI_getChars_22, nI_n0 n (by omega), not_false_eq_true, Nat.reduceLT, Nat.reduceAdd, true_and, and_true, if_true, if_false, ite_true, ite_false, xnb_0, xnb_1, xnb_b, xk_v, xk_n, c2, c3, d1, d2, ng_lt (a := 100) (b := n) (by omega) (by omega), ng_lt (a := 100) (b := n / 100) (by omega) (by omega), ng_lt (a := n / 100) (b := 9) (by omega) (by omega), eq_false h2, eq_true q2, eq_true (show 9 < n / 100 by omega), nn_i, e10, e11 (by omega), e12 (by omega), e13 (by omega), xr_d3 (y := m_JI_getChars) (pc := 83) rfl, xr_d3 (y := m_JI_getChars) (pc := 54) rfl, xr_d4 (y := m_JI_getChars) (pc := 67) rfl, xr_d4 (y := m_JI_getChars) (pc := 102) rfl, xBl_of hv, xBf_of hv, xlB_s, xfB_s, xst_2, show ((100 : Int32) = 0) = False from eq_false (by decide), not_false_eq_true, true_and, z1 (show q < m by omega), z2 (show q < m by omega), z1 (show q + 1 < m by omega), z2 (show q + 1 < m by omega), z1 (show q + 2 < m by omega), z2 (show q + 2 < m by omega), z1 (show q + 3 < m by omega), z2 (show q + 3 < m by omega), y1 _ q1, y2 _ q1, y1 _ q2, y2 _ q2, xdg3 _ q1, xdg4 _ q1, xdg3 _ q2, xdg4 _ q2, w1, w2, w3]
        · rcases (show j = 0 ∨ j = 1 ∨ j = 2 ∨ j = 3 by omega) with rfl | rfl | rfl | rfl
          · exact upd_s
          · rw [upd_o (by omega)]; exact upd_s
          · rw [upd_o (by omega), upd_o (by omega)]; exact upd_s
          · rw [upd_o (by omega), upd_o (by omega), upd_o (by omega)]; exact upd_s
        · rw [upd_o (by omega), upd_o (by omega), upd_o (by omega), upd_o (by omega)]
/-- the builder's append of a number -/
theorem ab_appI (hs : sbAt lo cb sl H p L) (hn : n ≤ 9999) (hl : L.length + (dcL n).length ≤ 50000) : ∃ X, (∀ Q, xcall E xprog (d + 4) 128 [.ref p, .int (nI n)] H Q = Q (.inl (some (.ref p)), X)) ∧ sbAt lo cb sl X p (L ++ dcL n) ∧ (∀ a, a < lo → X.1 a = H.1 a) ∧ H.2.1 ≤ X.2.1 := by
  obtain ⟨h1, h2, v, m, f, h3, h4, h5, h6, h7, h8, h9, h10, h11, h12, h13⟩ := hs
  obtain ⟨X, v', m', f', e1, e2, e3, e4, e5, e6, e7, e8, e9, e10, e11, e12, e13, e14, e15⟩ := ens (E := E) (d := d) (q := L.length + (dcL n).length) h6 h7 h8 (by omega) (by omega) h11 h2 h4 h5
  obtain ⟨g', a1, a2, a3, a4⟩ := f_JI_get (E := E) (d := d + 2) (q := L.length) (n := n) e3 hn (by omega) (by omega) e4
  have hlat := fun (Q : xR → Prop) => f_AB_isLatin1 (E := E) (d := d + 2) (Q := Q) e2
  have hp2 : (xset X v' (xarB m' g')).1 p = sbF v' L.length := by rw [xset_o _ (fun e => e15 e.symm)]; exact e2
  have hsz := fun (Q : xR → Prop) => f_JI_size (E := E) (d := d + 2) (H := H) (Q := Q) hn
  refine ⟨xset (xset X v' (xarB m' g')) p (sbF v' (L.length + (dcL n).length)), fun Q => ?_, ⟨h1, by show p < X.2.1; omega, v', m', g', by omega, e14, e15, ?_, ?_, a2, ?_, by rw [List.length_append]; omega, by rw [List.length_append]; omega, by show X.2.1 ≤ _; omega, by show X.2.2 ≤ _; omega⟩, fun a ha => ?_, e12⟩
  · rw [e_AB_appI]
    simp only [s_AB_appI_0, s_AB_appI_1, s_AB_appI_4, s_AB_appI_5, s_AB_appI_6, s_AB_appI_7, s_AB_appI_10, s_AB_appI_11, s_AB_appI_12, s_AB_appI_13, s_AB_appI_14, s_AB_appI_17, s_AB_appI_18, s_AB_appI_21, s_AB_appI_24, s_AB_appI_25, s_AB_appI_26, s_AB_appI_27, s_AB_appI_30, s_AB_appI_33, s_AB_appI_34, s_AB_appI_37, s_AB_appI_38, s_AB_appI_39, s_AB_appI_40, s_AB_appI_41, s_AB_appI_48, s_AB_appI_49, s_AB_appI_50, s_AB_appI_53, s_AB_appI_54, xf_of h6, xc_of h6, xf_of e2, xc_of e2, xf_of hp2, xc_of hp2, xll_11, xlg_11_0, xlg_11_1, xlg_11_2, xlg_11_3, xls_11_0, xls_11_1, xls_11_2, xls_11_3, not_false_eq_true, Nat.reduceLT, Nat.reduceAdd, true_and, and_true, if_true, if_false, ite_true, ite_false, xnb_0, xnb_1, xnb_b, xk_v, xk_n, nI_ad, hsz, e1, hlat, k1_0, a1]
  · rw [List.length_append]; exact xset_s p rfl
  · rw [xset_o _ e15]; exact xset_s v' rfl
  · intro j hj
    rw [List.length_append] at hj
    by_cases q : j < L.length
    · rw [a4 j q, e5 j (by omega), h9 j q, List.getD_eq_getElem?_getD, List.getD_eq_getElem?_getD, List.getElem?_append_left q]
    · have := a3 (j - L.length) (by omega)
      rw [show L.length + (j - L.length) = j by omega] at this
      rw [this, List.getD_eq_getElem?_getD, List.getD_eq_getElem?_getD, List.getElem?_append_right (by omega)]
  · rw [xset_o _ (by omega), xset_o _ (by rcases e13 with e | e <;> omega), e11 a (by omega) (by omega)]
theorem sb_appI (hs : sbAt lo cb sl H p L) (hn : n ≤ 9999) (hl : L.length + (dcL n).length ≤ 50000) : ∃ X, (∀ Q, xcall E xprog (d + 5) 150 [.ref p, .int (nI n)] H Q = Q (.inl (some (.ref p)), X)) ∧ sbAt lo cb sl X p (L ++ dcL n) ∧ (∀ a, a < lo → X.1 a = H.1 a) ∧ H.2.1 ≤ X.2.1 := by
  obtain ⟨X, e1, e2, e3, e4⟩ := ab_appI (E := E) (d := d) hs hn hl
  refine ⟨X, fun Q => ?_, e2, e3, e4⟩
  rw [e_SB_appI]
  simp only [s_SB_appI_0, s_SB_appI_1, s_SB_appI_2, s_SB_appI_5, s_SB_appI_6, s_SB_appI_7, not_false_eq_true, Nat.reduceLT, Nat.reduceAdd, true_and, and_true, if_true, if_false, ite_true, ite_false, xnb_0, xnb_1, xnb_b, xk_v, xk_n, sb_cl hs, e1]
end NUM
