/-! ===== text builders: appending ===== -/
section APP
variable {E : xE} {d : Nat} {Q : xR → Prop} {H X : xH} {p v n m q a b lo cb sl : Nat} {f g : Nat → Int32} {L M : List Nat} {sv : Value}
theorem xbc : ∀ c, c < 128 → fits .byte (.int (nI c)) = true := by decide +kernel
theorem ens (hp : H.1 p = sbF v n) (hv : H.1 v = xarB m f) (hb : xbok m f) (hq : q ≤ 50000) (hn : n ≤ q) (hm : m ≤ 2 * n + 40) (hlp : p < H.2.1) (hlv : v < H.2.1) (hpv : ¬ v = p) :
    ∃ (X : xH) (v' m' : Nat) (f' : Nat → Int32), (∀ Q, xcall E xprog (d + 3) 123 [.ref p, .int (nI q)] H Q = Q (.inl none, X)) ∧ X.1 p = sbF v' n ∧ X.1 v' = xarB m' f' ∧ xbok m' f' ∧ (∀ j, j < m → f' j = f j) ∧ q ≤ m' ∧ m ≤ m' ∧ m' ≤ 2 * q + 40 ∧ X.2.1 ≤ H.2.1 + (m' - m) ∧ X.2.2 ≤ H.2.2 + 2 * (m' - m) ∧
      (∀ a, a < H.2.1 → ¬ a = p → X.1 a = H.1 a) ∧ H.2.1 ≤ X.2.1 ∧ (v' = v ∨ v' = H.2.1) ∧ v' < X.2.1 ∧ ¬ v' = p := by
  by_cases h : q ≤ m
  · exact ⟨H, v, m, f, fun Q => f_AB_ens_no (d := d + 2) hp hv h (by omega), hp, hv, hb, fun _ _ => rfl, h, Nat.le_refl _, by omega, by omega, by omega, fun _ _ _ => rfl, Nat.le_refl _, Or.inl rfl, hlv, hpv⟩
  · have hc : 2 * m + 2 ≤ sbC m q ∧ q ≤ sbC m q ∧ sbC m q ≤ 2 * q + 40 := by unfold sbC; split <;> omega
    refine ⟨sbG H p n m q f, H.2.1, sbC m q, va_cpy f (fun _ => 0) 0 0 m, fun Q => f_AB_ens_up hp hv hb (by omega) (by omega) hlp hlv, ?_, ?_, ?_, fun j hj => ?_, hc.2.1, by omega, hc.2.2, ?_, ?_, fun a ha hap => ?_, ?_, Or.inr rfl, ?_, by omega⟩
    · exact xset_s p rfl
    · unfold sbG
      rw [xset_o _ (by omega), xnew_g, if_pos rfl]
    · intro j hj
      unfold va_cpy
      split
      · exact hb _ (by omega)
      · rfl
    · exact (pk_cpy_in (by omega) (by omega)).trans (by rw [show 0 + (j - 0) = j by omega])
    · show H.2.1 + 1 ≤ _; omega
    · show H.2.2 + sbC m q ≤ _; omega
    · unfold sbG
      rw [xset_o _ hap, xnew_g, if_neg (by omega)]
    · show H.2.1 ≤ H.2.1 + 1; omega
    · show H.2.1 < H.2.1 + 1; omega
/-- a builder of the letters L: made at lo or later -/
def sbAt (lo cb sl : Nat) (H : xH) (p : Nat) (L : List Nat) : Prop := lo ≤ p ∧ p < H.2.1 ∧ ∃ (v m : Nat) (f : Nat → Int32), lo ≤ v ∧ v < H.2.1 ∧ ¬ v = p ∧ H.1 p = sbF v L.length ∧ H.1 v = xarB m f ∧ xbok m f ∧ byL f L ∧ L.length ≤ m ∧ m ≤ 2 * L.length + 40 ∧ H.2.1 ≤ cb + m ∧ H.2.2 ≤ sl + 2 * m
theorem stV_fr (h : stV H sv L) (hp : H.1 p = sbF v n) (hx : ∀ a, a < H.2.1 → ¬ a = p → X.1 a = H.1 a) (hn : H.2.1 ≤ X.2.1) : stV X sv L := by
  rcases h with h | ⟨a, b, f, h1, h2', h3, h4, h5, h6, h7⟩
  · exact Or.inl h
  · refine Or.inr ⟨a, b, f, h1, ?_, ?_, h4, h5, Nat.lt_of_lt_of_le h6 hn, Nat.lt_of_lt_of_le h7 hn⟩
    · rw [hx a h6 (fun e => by rw [e, hp] at h2'; cases h2'), h2']
    · rw [hx b h7 (fun e => by rw [e, hp] at h3; cases h3), h3]
theorem f_AB_inf (hp : H.1 p = sbF v n) (h : stV H sv L) : xcall E xprog (d + 2) 131 [.ref p, sv] H Q = Q (.inl none, H) := by
  obtain ⟨r1, r2⟩ := st_rok h
  rw [e_AB_inflateIfNeededFor (ha := r2)]
  simp only [s_AB_inflateIfNeededFor_0, s_AB_inflateIfNeededFor_3, s_AB_inflateIfNeededFor_6, s_AB_inflateIfNeededFor_7, s_AB_inflateIfNeededFor_10, s_AB_inflateIfNeededFor_11, s_AB_inflateIfNeededFor_14, s_AB_inflateIfNeededFor_17, s_AB_inflateIfNeededFor_21, xf_of hp, xll_11, xlg_11_0, xlg_11_1, xlg_11_2, xlg_11_3, not_false_eq_true, Nat.reduceLT, Nat.reduceAdd, true_and, and_true, if_true, if_false, ite_true, ite_false, xnb_0, xnb_1, xnb_b, xk_v, xk_n, k1_0, r2, eq_true r1, st_cod h]
theorem f_AB_put (hp : H.1 p = sbF v n) (hv : H.1 v = xarB m g) (hs : stV H sv L) (h : q + L.length ≤ m) (hm : m ≤ 1000000) (hg : xbok m g) : ∃ g', (∀ Q, xcall E xprog (d + 3) 132 [.ref p, .int (nI q), sv] H Q = Q (.inl none, xset H v (xarB m g'))) ∧ xbok m g' ∧ (∀ j, j < L.length → g' (q + j) = nI (L.getD j 0)) ∧ ∀ j, j < q → g' j = g j := by
  obtain ⟨r1, r2⟩ := st_rok hs
  obtain ⟨g', a1, a2, a3, a4⟩ := st_get (E := E) (d := d) hs hv h hm hg
  refine ⟨g', fun Q => ?_, a2, a3, a4⟩
  rw [e_AB_putStringAt (ha := r2)]
  simp only [s_AB_putStringAt_0, s_AB_putStringAt_1, s_AB_putStringAt_2, s_AB_putStringAt_5, s_AB_putStringAt_6, s_AB_putStringAt_7, s_AB_putStringAt_10, s_AB_putStringAt_11, s_AB_putStringAt_12, s_AB_putStringAt_15, s_AB_putStringAt_18, xf_of hp, xc_of hp, xll_11, xlg_11_0, xlg_11_1, xlg_11_2, xlg_11_3, not_false_eq_true, Nat.reduceLT, Nat.reduceAdd, true_and, and_true, if_true, if_false, ite_true, ite_false, xnb_0, xnb_1, xnb_b, xk_v, xk_n, r2, eq_true r1, f_AB_inf hp hs, a1]
theorem ap_1 {x : Option Value} (h : stV H sv L) : xr E d m_AB_appS Q (1, [some (.ref p), some sv, x], [sv], H) = xr E d m_AB_appS Q (9, [some (.ref p), some sv, x], [], H) := by
  rcases h with ⟨i, hi, rfl, -⟩ | ⟨a, b, f, rfl, -⟩
  · refine xr_n2 (g := 0 ≤ (1 : Int) + 8) ?_ (by decide)
    unfold xact
    show xop E xprog m_AB_appS (.ifnonnull 8) _ _ _ _ _ = _
    unfold xop
    dsimp only
    rw [xT_i hi]
    rfl
  · exact xr_n2 rfl (by decide)
/-- the builder's append of a text -/
theorem ab_appS (hs : sbAt lo cb sl H p L) (hv : stV H sv M) (hl : L.length + M.length ≤ 50000) : ∃ X, (∀ Q, xcall E xprog (d + 4) 126 [.ref p, sv] H Q = Q (.inl (some (.ref p)), X)) ∧ sbAt lo cb sl X p (L ++ M) ∧ (∀ a, a < lo → X.1 a = H.1 a) ∧ H.2.1 ≤ X.2.1 := by
  obtain ⟨h1, h2, v, m, f, h3, h4, h5, h6, h7, h8, h9, h10, h11, h12, h13⟩ := hs
  obtain ⟨r1, r2⟩ := st_rok hv
  obtain ⟨X, v', m', f', e1, e2, e3, e4, e5, e6, e7, e8, e9, e10, e11, e12, e13, e14, e15⟩ := ens (E := E) (d := d) (q := L.length + M.length) h6 h7 h8 (by omega) (by omega) h11 h2 h4 h5
  have hv2 := stV_fr hv h6 e11 e12
  obtain ⟨g', a1, a2, a3, a4⟩ := f_AB_put (E := E) (d := d) (q := L.length) e2 e3 hv2 (by omega) (by omega) e4
  have hp2 : (xset X v' (xarB m' g')).1 p = sbF v' L.length := by rw [xset_o _ (fun e => e15 e.symm)]; exact e2
  refine ⟨xset (xset X v' (xarB m' g')) p (sbF v' (L.length + M.length)), fun Q => ?_, ⟨h1, by show p < X.2.1; omega, v', m', g', by omega, e14, e15, ?_, ?_, a2, ?_, by rw [List.length_append]; omega, by rw [List.length_append]; omega, by show X.2.1 ≤ _; omega, by show X.2.2 ≤ _; omega⟩, fun a ha => ?_, e12⟩
  · rw [e_AB_appS (ha := r2)]
    simp only [s_AB_appS_0, ap_1 hv, s_AB_appS_9, s_AB_appS_10, s_AB_appS_13, s_AB_appS_14, s_AB_appS_15, s_AB_appS_16, s_AB_appS_19, s_AB_appS_20, s_AB_appS_21, s_AB_appS_24, s_AB_appS_25, s_AB_appS_26, s_AB_appS_29, s_AB_appS_30, s_AB_appS_33, s_AB_appS_34, s_AB_appS_35, s_AB_appS_38, s_AB_appS_39, s_AB_appS_40, s_AB_appS_43, s_AB_appS_44, xf_of h6, xc_of h6, xf_of e2, xc_of e2, xf_of hp2, xll_11, xlg_11_0, xlg_11_1, xlg_11_2, xlg_11_3, xls_11_0, xls_11_1, xls_11_2, xls_11_3, not_false_eq_true, Nat.reduceLT, Nat.reduceAdd, true_and, and_true, if_true, if_false, ite_true, ite_false, xnb_0, xnb_1, xnb_b, xk_v, xk_n, r2, eq_true r1, st_len hv, nI_ad, e1, a1]
  · rw [List.length_append]; exact xset_s p rfl
  · rw [xset_o _ e15]; exact xset_s v' rfl
  · intro j hj
    rw [List.length_append] at hj
    by_cases q : j < L.length
    · rw [a4 j q, e5 j (by omega), h9 j q, List.getD_eq_getElem?_getD, List.getD_eq_getElem?_getD, List.getElem?_append_left q]
    · have := a3 (j - L.length) (by omega)
      rw [show L.length + (j - L.length) = j by omega] at this
      rw [this, List.getD_eq_getElem?_getD, List.getD_eq_getElem?_getD, List.getElem?_append_right (by omega)]
  · rw [xset_o _ (by omega), xset_o _ (by rcases e13 with e | e <;> omega), e11 a (by omega) (by omega)]
theorem sb_cl (hs : sbAt lo cb sl H p L) : xcl H p = 11 := by
  obtain ⟨h1, h2, v, m, f, h3, h4, h5, h6, -⟩ := hs
  exact xc_of h6
theorem sb_appS (hs : sbAt lo cb sl H p L) (hv : stV H sv M) (hl : L.length + M.length ≤ 50000) : ∃ X, (∀ Q, xcall E xprog (d + 5) 148 [.ref p, sv] H Q = Q (.inl (some (.ref p)), X)) ∧ sbAt lo cb sl X p (L ++ M) ∧ (∀ a, a < lo → X.1 a = H.1 a) ∧ H.2.1 ≤ X.2.1 := by
  obtain ⟨X, e1, e2, e3, e4⟩ := ab_appS (E := E) (d := d) hs hv hl
  refine ⟨X, fun Q => ?_, e2, e3, e4⟩
  rw [e_SB_appS (ha := (st_rok hv).2)]
  simp only [s_SB_appS_0, s_SB_appS_1, s_SB_appS_2, s_SB_appS_5, s_SB_appS_6, s_SB_appS_7, not_false_eq_true, Nat.reduceLT, Nat.reduceAdd, true_and, and_true, if_true, if_false, ite_true, ite_false, xnb_0, xnb_1, xnb_b, xk_v, xk_n, (st_rok hv).2, sb_cl hs, e1]
/-- of a letter -/
theorem ab_appC {c : Nat} (hs : sbAt lo cb sl H p L) (hc : c < 128) (hl : L.length + 1 ≤ 50000) : ∃ X, (∀ Q, xcall E xprog (d + 4) 127 [.ref p, .int (nI c)] H Q = Q (.inl (some (.ref p)), X)) ∧ sbAt lo cb sl X p (L ++ [c]) ∧ (∀ a, a < lo → X.1 a = H.1 a) ∧ H.2.1 ≤ X.2.1 := by
  obtain ⟨h1, h2, v, m, f, h3, h4, h5, h6, h7, h8, h9, h10, h11, h12, h13⟩ := hs
  obtain ⟨X, v', m', f', e1, e2, e3, e4, e5, e6, e7, e8, e9, e10, e11, e12, e13, e14, e15⟩ := ens (E := E) (d := d) (q := L.length + 1) h6 h7 h8 (by omega) (by omega) h11 h2 h4 h5
  have hce : ∀ (Q : xR → Prop) (Z : xH), xcall E xprog (d + 3) 156 [.int (nI c)] Z Q = Q (.inl (some (.int 1)), Z) := by
    intro Q Z
    rw [e_JL_canEncode]
    simp only [s_JL_canEncode_0, s_JL_canEncode_1, s_JL_canEncode_4, s_JL_canEncode_7, s_JL_canEncode_8, s_JL_canEncode_11, s_JL_canEncode_12, not_false_eq_true, Nat.reduceLT, Nat.reduceAdd, true_and, and_true, if_true, if_false, ite_true, ite_false, xnb_0, xnb_1, xnb_b, xk_v, xk_n, show ((255 : Int32) < nI c) = False from nge (n := c) (i := 255) (by omega) (by omega)]
  have hlat := fun (Q : xR → Prop) => f_AB_isLatin1 (E := E) (d := d + 2) (Q := Q) e2
  obtain ⟨c1, c2, c3⟩ := ch_ok c hc
  have hp2 : (xset X p (sbF v' (L.length + 1))).1 v' = xarB m' f' := by rw [xset_o _ e15]; exact e3
  have hbk : vp_nar .byte (nI c).toInt8.toInt32 = nI c := by rw [pk_vb, c3]
  refine ⟨xset (xset X p (sbF v' (L.length + 1))) v' (xarB m' (upd f' L.length (nI c))), fun Q => ?_, ⟨h1, by show p < X.2.1; omega, v', m', upd f' L.length (nI c), by omega, e14, e15, ?_, ?_, ?_, ?_, by rw [List.length_append]; show L.length + 1 ≤ _; omega, by rw [List.length_append]; show _ ≤ 2 * (L.length + 1) + 40; omega, by show X.2.1 ≤ _; omega, by show X.2.2 ≤ _; omega⟩, fun a ha => ?_, e12⟩
  · rw [e_AB_appC]
    simp only [s_AB_appC_0, s_AB_appC_1, s_AB_appC_2, s_AB_appC_5, s_AB_appC_6, s_AB_appC_7, s_AB_appC_10, s_AB_appC_11, s_AB_appC_14, s_AB_appC_17, s_AB_appC_18, s_AB_appC_21, s_AB_appC_24, s_AB_appC_25, s_AB_appC_28, s_AB_appC_29, s_AB_appC_30, s_AB_appC_33, s_AB_appC_34, s_AB_appC_35, s_AB_appC_36, s_AB_appC_39, s_AB_appC_40, s_AB_appC_41, s_AB_appC_42, s_AB_appC_45, s_AB_appC_46, s_AB_appC_49, s_AB_appC_52, s_AB_appC_56, s_AB_appC_57, s_AB_appC_60, s_AB_appC_61, s_AB_appC_62, s_AB_appC_65, s_AB_appC_66, s_AB_appC_67, s_AB_appC_68, s_AB_appC_71, s_AB_appC_75, s_AB_appC_76, xf_of h6, xc_of h6, xf_of e2, xc_of e2, xll_11, xlg_11_0, xlg_11_1, xlg_11_2, xlg_11_3, xls_11_0, xls_11_1, xls_11_2, xls_11_3, not_false_eq_true, Nat.reduceLT, Nat.reduceAdd, true_and, and_true, if_true, if_false, ite_true, ite_false, xnb_0, xnb_1, xnb_b, xk_v, xk_n, nI_1, e1, hlat, hce, k1_0, xBl_of hp2, xBf_of hp2, nvp (show L.length < m' by omega) (by omega), ncl (show L.length < 2147483648 by omega), hbk]
  · rw [xset_o _ (fun e => e15 e.symm), List.length_append]; exact xset_s p rfl
  · exact xset_s v' rfl
  · intro j hj
    by_cases q : j = L.length
    · subst q; rw [upd_s]
      have := xbc c hc
      exact this
    · rw [upd_o q]; exact e4 j hj
  · intro j hj
    rw [List.length_append] at hj
    have hj : j < L.length + 1 := hj
    by_cases q : j = L.length
    · subst q
      rw [upd_s, List.getD_eq_getElem?_getD, List.getElem?_append_right (Nat.le_refl _), Nat.sub_self]; rfl
    · rw [upd_o q, e5 j (by omega), h9 j (by omega), List.getD_eq_getElem?_getD, List.getD_eq_getElem?_getD, List.getElem?_append_left (by omega)]
  · rw [xset_o _ (by rcases e13 with e | e <;> omega), xset_o _ (by omega), e11 a (by omega) (by omega)]
theorem sb_appC {c : Nat} (hs : sbAt lo cb sl H p L) (hc : c < 128) (hl : L.length + 1 ≤ 50000) : ∃ X, (∀ Q, xcall E xprog (d + 5) 149 [.ref p, .int (nI c)] H Q = Q (.inl (some (.ref p)), X)) ∧ sbAt lo cb sl X p (L ++ [c]) ∧ (∀ a, a < lo → X.1 a = H.1 a) ∧ H.2.1 ≤ X.2.1 := by
  obtain ⟨X, e1, e2, e3, e4⟩ := ab_appC (E := E) (d := d) hs hc hl
  refine ⟨X, fun Q => ?_, e2, e3, e4⟩
  rw [e_SB_appC]
  simp only [s_SB_appC_0, s_SB_appC_1, s_SB_appC_2, s_SB_appC_5, s_SB_appC_6, s_SB_appC_7, not_false_eq_true, Nat.reduceLT, Nat.reduceAdd, true_and, and_true, if_true, if_false, ite_true, ite_false, xnb_0, xnb_1, xnb_b, xk_v, xk_n, sb_cl hs, e1]
end APP
