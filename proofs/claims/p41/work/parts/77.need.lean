/-! ===== throws; what is needed of a cell, a kettle, a clipper, a direction, hours ===== -/
section NEED
variable {E : xE} {d : Nat} {Q : xR → Prop} {X : xH} {Kb Ks : Nat} {ep : Int32} {b : Nat → Nat → Int32} {nm : Nat → Int64} {s : Nat → Int32}
theorem xc_nw {H : xH} {ci k : Nat} {fs : List Value} : xcl (xnew H (.inr (ci, fs)) k) H.2.1 = ci := xc_of (by rw [xnew_g, if_pos rfl])
theorem t_T_needCell_21 (ls : List (Option Value)) (H : xH) : xr E d m_T_needCell Q (21, ls, [.ref H.2.1], xnew H (.inr (15, [])) 6) = Q (.inr 15, xnew H (.inr (15, [])) 6) :=
  (xr_t (ci := 15) (g := True) (g' := True) (by
    show (if 13 ≤ xcl (xnew H (.inr (15, [])) 6) H.2.1 ∧ xcl (xnew H (.inr (15, [])) 6) H.2.1 < 16 then xth (xcl (xnew H (.inr (15, [])) 6) H.2.1) else none) = _
    rw [xc_nw]
    rfl) trivial).trans (by
    unfold xthr
    exact if_pos (show m_T_needCell.hh = [] from rfl))
theorem t_T_needKettle_24 (ls : List (Option Value)) (H : xH) : xr E d m_T_needKettle Q (24, ls, [.ref H.2.1], xnew H (.inr (15, [])) 6) = Q (.inr 15, xnew H (.inr (15, [])) 6) :=
  (xr_t (ci := 15) (g := True) (g' := True) (by
    show (if 13 ≤ xcl (xnew H (.inr (15, [])) 6) H.2.1 ∧ xcl (xnew H (.inr (15, [])) 6) H.2.1 < 16 then xth (xcl (xnew H (.inr (15, [])) 6) H.2.1) else none) = _
    rw [xc_nw]
    rfl) trivial).trans (by
    unfold xthr
    exact if_pos (show m_T_needKettle.hh = [] from rfl))
theorem t_T_needClipper_24 (ls : List (Option Value)) (H : xH) : xr E d m_T_needClipper Q (24, ls, [.ref H.2.1], xnew H (.inr (15, [])) 6) = Q (.inr 15, xnew H (.inr (15, [])) 6) :=
  (xr_t (ci := 15) (g := True) (g' := True) (by
    show (if 13 ≤ xcl (xnew H (.inr (15, [])) 6) H.2.1 ∧ xcl (xnew H (.inr (15, [])) 6) H.2.1 < 16 then xth (xcl (xnew H (.inr (15, [])) 6) H.2.1) else none) = _
    rw [xc_nw]
    rfl) trivial).trans (by
    unfold xthr
    exact if_pos (show m_T_needClipper.hh = [] from rfl))
theorem t_T_needDirection_18 (ls : List (Option Value)) (H : xH) : xr E d m_T_needDirection Q (18, ls, [.ref H.2.1], xnew H (.inr (15, [])) 6) = Q (.inr 15, xnew H (.inr (15, [])) 6) :=
  (xr_t (ci := 15) (g := True) (g' := True) (by
    show (if 13 ≤ xcl (xnew H (.inr (15, [])) 6) H.2.1 ∧ xcl (xnew H (.inr (15, [])) 6) H.2.1 < 16 then xth (xcl (xnew H (.inr (15, [])) 6) H.2.1) else none) = _
    rw [xc_nw]
    rfl) trivial).trans (by
    unfold xthr
    exact if_pos (show m_T_needDirection.hh = [] from rfl))
theorem t_T_needHours_20 (ls : List (Option Value)) (H : xH) : xr E d m_T_needHours Q (20, ls, [.ref H.2.1], xnew H (.inr (14, [])) 6) = Q (.inr 14, xnew H (.inr (14, [])) 6) :=
  (xr_t (ci := 14) (g := True) (g' := True) (by
    show (if 13 ≤ xcl (xnew H (.inr (14, [])) 6) H.2.1 ∧ xcl (xnew H (.inr (14, [])) 6) H.2.1 < 16 then xth (xcl (xnew H (.inr (14, [])) 6) H.2.1) else none) = _
    rw [xc_nw]
    rfl) trivial).trans (by
    unfold xthr
    exact if_pos (show m_T_needHours.hh = [] from rfl))
theorem t_T_feed_22 (ls : List (Option Value)) (H : xH) : xr E d m_T_feed Q (22, ls, [.ref H.2.1], xnew H (.inr (13, [])) 6) = Q (.inr 13, xnew H (.inr (13, [])) 6) :=
  (xr_t (ci := 13) (g := True) (g' := True) (by
    show (if 13 ≤ xcl (xnew H (.inr (13, [])) 6) H.2.1 ∧ xcl (xnew H (.inr (13, [])) 6) H.2.1 < 16 then xth (xcl (xnew H (.inr (13, [])) 6) H.2.1) else none) = _
    rw [xc_nw]
    rfl) trivial).trans (by
    unfold xthr
    exact if_pos (show m_T_feed.hh = [] from rfl))
theorem t_T_trim_24 (ls : List (Option Value)) (H : xH) : xr E d m_T_trim Q (24, ls, [.ref H.2.1], xnew H (.inr (14, [])) 6) = Q (.inr 14, xnew H (.inr (14, [])) 6) :=
  (xr_t (ci := 14) (g := True) (g' := True) (by
    show (if 13 ≤ xcl (xnew H (.inr (14, [])) 6) H.2.1 ∧ xcl (xnew H (.inr (14, [])) 6) H.2.1 < 16 then xth (xcl (xnew H (.inr (14, [])) 6) H.2.1) else none) = _
    rw [xc_nw]
    rfl) trivial).trans (by
    unfold xthr
    exact if_pos (show m_T_trim.hh = [] from rfl))
theorem t_T_steersTo_27 (ls : List (Option Value)) (H : xH) : xr E d m_T_steersTo Q (27, ls, [.ref H.2.1], xnew H (.inr (13, [])) 6) = Q (.inr 13, xnew H (.inr (13, [])) 6) :=
  (xr_t (ci := 13) (g := True) (g' := True) (by
    show (if 13 ≤ xcl (xnew H (.inr (13, [])) 6) H.2.1 ∧ xcl (xnew H (.inr (13, [])) 6) H.2.1 < 16 then xth (xcl (xnew H (.inr (13, [])) 6) H.2.1) else none) = _
    rw [xc_nw]
    rfl) trivial).trans (by
    unfold xthr
    exact if_pos (show m_T_steersTo.hh = [] from rfl))
theorem t_T_leader_20 (ls : List (Option Value)) (H : xH) : xr E d m_T_leader Q (20, ls, [.ref H.2.1], xnew H (.inr (13, [])) 6) = Q (.inr 13, xnew H (.inr (13, [])) 6) :=
  (xr_t (ci := 13) (g := True) (g' := True) (by
    show (if 13 ≤ xcl (xnew H (.inr (13, [])) 6) H.2.1 ∧ xcl (xnew H (.inr (13, [])) 6) H.2.1 < 16 then xth (xcl (xnew H (.inr (13, [])) 6) H.2.1) else none) = _
    rw [xc_nw]
    rfl) trivial).trans (by
    unfold xthr
    exact if_pos (show m_T_leader.hh = [] from rfl))
theorem t_T_setWind_22 (ls : List (Option Value)) (H : xH) : xr E d m_T_setWind Q (22, ls, [.ref H.2.1], xnew H (.inr (14, [])) 6) = Q (.inr 14, xnew H (.inr (14, [])) 6) :=
  (xr_t (ci := 14) (g := True) (g' := True) (by
    show (if 13 ≤ xcl (xnew H (.inr (14, [])) 6) H.2.1 ∧ xcl (xnew H (.inr (14, [])) 6) H.2.1 < 16 then xth (xcl (xnew H (.inr (14, [])) 6) H.2.1) else none) = _
    rw [xc_nw]
    rfl) trivial).trans (by
    unfold xthr
    exact if_pos (show m_T_setWind.hh = [] from rfl))
theorem t_T_jettison_19 (ls : List (Option Value)) (H : xH) : xr E d m_T_jettison Q (19, ls, [.ref H.2.1], xnew H (.inr (14, [])) 6) = Q (.inr 14, xnew H (.inr (14, [])) 6) :=
  (xr_t (ci := 14) (g := True) (g' := True) (by
    show (if 13 ≤ xcl (xnew H (.inr (14, [])) 6) H.2.1 ∧ xcl (xnew H (.inr (14, [])) 6) H.2.1 < 16 then xth (xcl (xnew H (.inr (14, [])) 6) H.2.1) else none) = _
    rw [xc_nw]
    rfl) trivial).trans (by
    unfold xthr
    exact if_pos (show m_T_jettison.hh = [] from rfl))
theorem t_T_jettison_42 (ls : List (Option Value)) (H : xH) : xr E d m_T_jettison Q (42, ls, [.ref H.2.1], xnew H (.inr (13, [])) 6) = Q (.inr 13, xnew H (.inr (13, [])) 6) :=
  (xr_t (ci := 13) (g := True) (g' := True) (by
    show (if 13 ≤ xcl (xnew H (.inr (13, [])) 6) H.2.1 ∧ xcl (xnew H (.inr (13, [])) 6) H.2.1 < 16 then xth (xcl (xnew H (.inr (13, [])) 6) H.2.1) else none) = _
    rw [xc_nw]
    rfl) trivial).trans (by
    unfold xthr
    exact if_pos (show m_T_jettison.hh = [] from rfl))
theorem t_T_calmKettle_24 (ls : List (Option Value)) (H : xH) : xr E d m_T_calmKettle Q (24, ls, [.ref H.2.1], xnew H (.inr (14, [])) 6) = Q (.inr 14, xnew H (.inr (14, [])) 6) :=
  (xr_t (ci := 14) (g := True) (g' := True) (by
    show (if 13 ≤ xcl (xnew H (.inr (14, [])) 6) H.2.1 ∧ xcl (xnew H (.inr (14, [])) 6) H.2.1 < 16 then xth (xcl (xnew H (.inr (14, [])) 6) H.2.1) else none) = _
    rw [xc_nw]
    rfl) trivial).trans (by
    unfold xthr
    exact if_pos (show m_T_calmKettle.hh = [] from rfl))
theorem f_T_needClipper (hc : X.1 0 = tgC Kb Ks ep) (hB : kB X Kb b nm s) (c : Int32) : xcall E xprog (d + 1) 103 [.ref 0, .int c] X Q = if c < 0 ∨ ¬ c < s 4 then Q (.inr 15, xnew X (.inr (15, [])) 6) else Q (.inl none, X) := by
  unfold tgC at hc
  obtain ⟨b00, b01, b02, b03, b04, b05, b06, b07, b08, b09, b10, b11, b12, b13, b14⟩ := id hB
  rw [e_T_needClipper]
  simp only [s_T_needClipper_0, s_T_needClipper_1, s_T_needClipper_4, s_T_needClipper_5, s_T_needClipper_6, s_T_needClipper_9, s_T_needClipper_12, s_T_needClipper_15, s_T_needClipper_25, xf_of b00, xf_of b01, xc_of b00, xc_of b01, xIl_of b02, xIf_of b02, xIl_of b03, xIf_of b03, xIl_of b04, xIf_of b04, xIl_of b05, xIf_of b05, xIl_of b06, xIf_of b06, xIl_of b07, xIf_of b07, xIl_of b08, xIf_of b08, xIl_of b10, xIf_of b10, xIl_of b11, xIf_of b11, xIl_of b12, xIf_of b12, xIl_of b13, xIf_of b13, xIl_of b14, xIf_of b14, xJl_of b09, xJf_of b09, xll_1, xlg_1_0, xlg_1_1, xlg_1_2, xlg_1_3, xlg_1_4, xlg_1_5, xlg_1_6, xlg_1_7, xlg_1_8, xlg_1_9, xlg_1_10, xlg_1_11, xlg_1_12, xlg_1_13, xlg_1_14, xlg_1_15, xlg_1_16, xll_5, xlg_5_0, xlg_5_1, xlg_5_2, xf_of hc, xll_8, xlg_8_0, xlg_8_1, xlg_8_2, xlg_8_3, xlg_8_4, xlg_8_5, xlg_8_6, not_false_eq_true, Nat.reduceLT, Nat.reduceAdd, true_and, and_true, if_true, if_false, ite_true, ite_false, xnb_0, xnb_1, xnb_b, xk_v, xk_n, t_T_needClipper_24]
  by_cases h1 : c < 0 <;> by_cases h2 : c < s 4 <;> simp only [h1, h2, if_true, if_false, true_or, or_true, false_or, or_false, or_self, not_true_eq_false, not_false_eq_true]
theorem f_T_needKettle (hc : X.1 0 = tgC Kb Ks ep) (hB : kB X Kb b nm s) (c : Int32) : xcall E xprog (d + 1) 102 [.ref 0, .int c] X Q = if c < 0 ∨ ¬ c < s 2 then Q (.inr 15, xnew X (.inr (15, [])) 6) else Q (.inl none, X) := by
  unfold tgC at hc
  obtain ⟨b00, b01, b02, b03, b04, b05, b06, b07, b08, b09, b10, b11, b12, b13, b14⟩ := id hB
  rw [e_T_needKettle]
  simp only [s_T_needKettle_0, s_T_needKettle_1, s_T_needKettle_4, s_T_needKettle_5, s_T_needKettle_6, s_T_needKettle_9, s_T_needKettle_12, s_T_needKettle_15, s_T_needKettle_25, xf_of b00, xf_of b01, xc_of b00, xc_of b01, xIl_of b02, xIf_of b02, xIl_of b03, xIf_of b03, xIl_of b04, xIf_of b04, xIl_of b05, xIf_of b05, xIl_of b06, xIf_of b06, xIl_of b07, xIf_of b07, xIl_of b08, xIf_of b08, xIl_of b10, xIf_of b10, xIl_of b11, xIf_of b11, xIl_of b12, xIf_of b12, xIl_of b13, xIf_of b13, xIl_of b14, xIf_of b14, xJl_of b09, xJf_of b09, xll_1, xlg_1_0, xlg_1_1, xlg_1_2, xlg_1_3, xlg_1_4, xlg_1_5, xlg_1_6, xlg_1_7, xlg_1_8, xlg_1_9, xlg_1_10, xlg_1_11, xlg_1_12, xlg_1_13, xlg_1_14, xlg_1_15, xlg_1_16, xll_5, xlg_5_0, xlg_5_1, xlg_5_2, xf_of hc, xll_8, xlg_8_0, xlg_8_1, xlg_8_2, xlg_8_3, xlg_8_4, xlg_8_5, xlg_8_6, not_false_eq_true, Nat.reduceLT, Nat.reduceAdd, true_and, and_true, if_true, if_false, ite_true, ite_false, xnb_0, xnb_1, xnb_b, xk_v, xk_n, t_T_needKettle_24]
  by_cases h1 : c < 0 <;> by_cases h2 : c < s 2 <;> simp only [h1, h2, if_true, if_false, true_or, or_true, false_or, or_false, or_self, not_true_eq_false, not_false_eq_true]
theorem f_T_needDirection (c : Int32) : xcall E xprog (d + 1) 104 [.int c] X Q = if c < 0 ∨ ¬ c < 4 then Q (.inr 15, xnew X (.inr (15, [])) 6) else Q (.inl none, X) := by
  rw [e_T_needDirection]
  simp only [s_T_needDirection_0, s_T_needDirection_1, s_T_needDirection_4, s_T_needDirection_5, s_T_needDirection_6, s_T_needDirection_9, s_T_needDirection_19, not_false_eq_true, Nat.reduceLT, Nat.reduceAdd, true_and, and_true, if_true, if_false, ite_true, ite_false, xnb_0, xnb_1, xnb_b, xk_v, xk_n, t_T_needDirection_18]
  by_cases h1 : c < 0 <;> by_cases h2 : c < 4 <;> simp only [h1, h2, if_true, if_false, true_or, or_true, false_or, or_false, or_self, not_true_eq_false, not_false_eq_true]
theorem f_T_needHours (c : Int32) : xcall E xprog (d + 1) 105 [.int c] X Q = if c < 1 ∨ 60 < c then Q (.inr 14, xnew X (.inr (14, [])) 6) else Q (.inl none, X) := by
  rw [e_T_needHours]
  simp only [s_T_needHours_0, s_T_needHours_1, s_T_needHours_2, s_T_needHours_5, s_T_needHours_6, s_T_needHours_8, s_T_needHours_11, s_T_needHours_21, not_false_eq_true, Nat.reduceLT, Nat.reduceAdd, true_and, and_true, if_true, if_false, ite_true, ite_false, xnb_0, xnb_1, xnb_b, xk_v, xk_n, t_T_needHours_20]
  by_cases h1 : c < 1 <;> by_cases h2 : 60 < c <;> simp only [h1, h2, if_true, if_false, true_or, or_true, false_or, or_false, or_self, not_true_eq_false, not_false_eq_true]
end NEED
